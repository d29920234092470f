/-! Small numbers; what a lean bears; of both. -/
theorem am_bm {n : Int} (h1 : -2147483648 ≤ n) (h2 : n < 2147483648) : n.bmod (2 ^ 32) = n := Int.bmod_eq_of_le (by omega) (by omega)
theorem am_sub {a b : Int32} (h1 : -2147483648 ≤ a.toInt - b.toInt) (h2 : a.toInt - b.toInt < 2147483648) : (a - b).toInt = a.toInt - b.toInt := by rw [Int32.toInt_sub]; exact am_bm h1 h2
theorem am_add {a b : Int32} (h1 : -2147483648 ≤ a.toInt + b.toInt) (h2 : a.toInt + b.toInt < 2147483648) : (a + b).toInt = a.toInt + b.toInt := by rw [Int32.toInt_add]; exact am_bm h1 h2
theorem am_mul {a b : Int32} (h1 : -2147483648 ≤ a.toInt * b.toInt) (h2 : a.toInt * b.toInt < 2147483648) : (a * b).toInt = a.toInt * b.toInt := by rw [Int32.toInt_mul]; exact am_bm h1 h2
theorem am_neg {a : Int32} (h1 : -2147483648 < a.toInt) : (-a).toInt = -a.toInt := by
  rw [Int32.toInt_neg]
  have := a.toInt_lt
  exact am_bm (by omega) (by omega)
/-- a lean at most so far from a down -/
abbrev am_bs (be d l : Int32) : Prop := d.toInt - be.toInt ≤ l.toInt ∧ l.toInt ≤ d.toInt + be.toInt
theorem am_abs_cs {be d l : Int32} (h1 : am_rn be 0 18) (h2 : am_rn d (-9) 9) (h3 : am_rn l (-9) 9) : (be < (if (0 : Int32) ≤ l - d then l - d else (0 : Int32) - (l - d))) ↔ ¬ am_bs be d l := by
  have e1 : (l - d).toInt = l.toInt - d.toInt := am_sub (by omega) (by omega)
  by_cases h : (0 : Int32) ≤ l - d
  · rw [if_pos h, Int32.lt_iff_toInt_lt, e1]
    rw [Int32.le_iff_toInt_le, e1, Int32.toInt_zero] at h
    omega
  · rw [if_neg h, Int32.lt_iff_toInt_lt]
    have e2 : ((0 : Int32) - (l - d)).toInt = -(l.toInt - d.toInt) := by
      rw [am_sub (by rw [e1, Int32.toInt_zero]; omega) (by rw [e1, Int32.toInt_zero]; omega), e1, Int32.toInt_zero]; omega
    rw [e2]
    rw [Int32.le_iff_toInt_le, e1, Int32.toInt_zero] at h
    omega
theorem am_in_cs {be d l : Int32} (h1 : am_rn be 0 18) (h2 : am_rn d (-9) 9) (h3 : am_rn l (-9) 9) : (-be ≤ l - d ∧ l - d ≤ be) ↔ am_bs be d l := by
  have e1 : (l - d).toInt = l.toInt - d.toInt := am_sub (by omega) (by omega)
  have e2 : (-be).toInt = -be.toInt := am_neg (by omega)
  rw [Int32.le_iff_toInt_le, Int32.le_iff_toInt_le, e1, e2]
  omega
/-- the down of a one -/
def am_dw (dn cr : Nat → Int32) (k : Nat) : Int32 := dn (cr k).toNatClampNeg
theorem am_dw_rn {dn cr : Nat → Int32} {k : Nat} (hcr : am_rn (cr k) 0 2) (hdn : ∀ c, c < 3 → am_rn (dn c) (-9) 9) : am_rn (am_dw dn cr k) (-9) 9 := by
  obtain ⟨c, hc, e⟩ := am_rn_ix hcr (n := 3) (by omega) (by omega)
  unfold am_dw
  rw [e, am_cl (by omega)]
  exact hdn c hc
theorem am_rg3 {dn : Nat → Int32} {x : Int32} (h : am_rn x 0 2) : am_rg 3 dn x = dn x.toNatClampNeg := by
  obtain ⟨c, hc, e⟩ := am_rn_ix h (n := 3) (by omega) (by omega)
  rw [e, am_rg_nI hc (by omega), am_cl (by omega)]
theorem am_hs_nI {b : Int32} {j : Nat} (hj : j < 32) : am_hs b (nI j) ↔ bt b j = true := by
  constructor
  · intro h; exact (b_one j hj b).mp h.2.2
  · intro h; exact ⟨nI_pos' (by omega), nI_ge (a := j) (b := 32) hj (by omega), (b_one j hj b).mpr h⟩
theorem s_downFor_1 (X : AMx) (R : Nat → Nat → Int32) (Z : Nat → Int32) (A : Nat → Nat → Int32) (Y : Nat → Int32) {k : Nat} (hk : k < 7) (hcr : am_rn (R 1 k) 0 2) : am_D X 37 [.ref 1, .int (nI k)] (am_WH R Z A Y) = some (some (.int (am_dw (R 0) (R 1) k)), am_WH R Z A Y) := by
  simp only [d_X4_downFor_1, b_X4_downFor_1_0, b_X4_downFor_1_12, b_X4_downFor_1_15, d_X1_get_4, d_X1_get_2, am_rg_nI hk (by omega), am_rg3 hcr, am_C_v, am_C_0, am_ue, if_true, if_false, eq_self, am_10, ite_not, Nat.reduceEqDiff, reduceIte, am_dw]
theorem s_carries_1 (X : AMx) (R : Nat → Nat → Int32) (Z : Nat → Int32) (A : Nat → Nat → Int32) (Y : Nat → Int32) {k : Nat} (hk : k < 7) (hcr : am_rn (R 1 k) 0 2) (hdn : ∀ c, c < 3 → am_rn (R 0 c) (-9) 9) (hbe : am_rn (Z 0) 0 18) {l : Int32} (hl : am_rn l (-9) 9) : am_D X 38 [.ref 1, .int l, .int (nI k)] (am_WH R Z A Y) = some (some (.int (am_bI (am_bs (Z 0) (am_dw (R 0) (R 1) k) l))), am_WH R Z A Y) := by
  have h := am_abs_cs hbe (am_dw_rn hcr hdn) hl
  by_cases hc : am_bs (Z 0) (am_dw (R 0) (R 1) k) l
  · have h2 : ¬ (Z 0 < (if (0 : Int32) ≤ l - am_dw (R 0) (R 1) k then l - am_dw (R 0) (R 1) k else (0 : Int32) - (l - am_dw (R 0) (R 1) k))) := fun z => h.mp z hc
    unfold am_dw at h2
    simp only [d_X4_carries_1, b_X4_carries_1_0, b_X4_carries_1_13, b_X4_carries_1_16, b_X4_carries_1_27, b_X4_carries_1_31, d_X1_get_4, d_X1_get_2, am_rg_nI hk (by omega), am_rg3 hcr, am_C_v, am_bI_t hc, if_neg h2]
  · have h2 := h.mpr hc
    unfold am_dw at h2
    simp only [d_X4_carries_1, b_X4_carries_1_0, b_X4_carries_1_13, b_X4_carries_1_16, b_X4_carries_1_27, b_X4_carries_1_31, d_X1_get_4, d_X1_get_2, am_rg_nI hk (by omega), am_rg3 hcr, am_C_v, am_bI_f hc, if_pos h2]
theorem s_stands_1 (X : AMx) (R : Nat → Nat → Int32) (Z : Nat → Int32) (A : Nat → Nat → Int32) (Y : Nat → Int32) (a : Int32) : am_D X 33 [.ref 1, .int a] (am_WH R Z A Y) = some (some (.int (am_bI (am_hs (Z 2) a))), am_WH R Z A Y) := by
  simp only [d_X4_stands_1, b_X4_stands_1_0, b_X4_stands_1_8, s_has, am_C_v, am_C_0, am_ue, if_true, if_false, eq_self, am_10, ite_not, Nat.reduceEqDiff, reduceIte]
  by_cases h : am_hs (Z 2) a
  · rw [am_bI_t h]; rfl
  · rw [am_bI_f h]; rfl
theorem s_downFor_24 (X : AMx) (R : Nat → Nat → Int32) (Z : Nat → Int32) (A : Nat → Nat → Int32) (Y : Nat → Int32) {k : Nat} (hk : k < 7) (hcr : am_rn (R 10 k) 0 2) : am_D X 37 [.ref 24, .int (nI k)] (am_WH R Z A Y) = some (some (.int (am_dw (R 9) (R 10) k)), am_WH R Z A Y) := by
  simp only [d_X4_downFor_24, b_X4_downFor_24_0, b_X4_downFor_24_12, b_X4_downFor_24_15, d_X1_get_27, d_X1_get_25, am_rg_nI hk (by omega), am_rg3 hcr, am_C_v, am_C_0, am_ue, if_true, if_false, eq_self, am_10, ite_not, Nat.reduceEqDiff, reduceIte, am_dw]
theorem s_carries_24 (X : AMx) (R : Nat → Nat → Int32) (Z : Nat → Int32) (A : Nat → Nat → Int32) (Y : Nat → Int32) {k : Nat} (hk : k < 7) (hcr : am_rn (R 10 k) 0 2) (hdn : ∀ c, c < 3 → am_rn (R 9 c) (-9) 9) (hbe : am_rn (Z 7) 0 18) {l : Int32} (hl : am_rn l (-9) 9) : am_D X 38 [.ref 24, .int l, .int (nI k)] (am_WH R Z A Y) = some (some (.int (am_bI (am_bs (Z 7) (am_dw (R 9) (R 10) k) l))), am_WH R Z A Y) := by
  have h := am_abs_cs hbe (am_dw_rn hcr hdn) hl
  by_cases hc : am_bs (Z 7) (am_dw (R 9) (R 10) k) l
  · have h2 : ¬ (Z 7 < (if (0 : Int32) ≤ l - am_dw (R 9) (R 10) k then l - am_dw (R 9) (R 10) k else (0 : Int32) - (l - am_dw (R 9) (R 10) k))) := fun z => h.mp z hc
    unfold am_dw at h2
    simp only [d_X4_carries_24, b_X4_carries_24_0, b_X4_carries_24_13, b_X4_carries_24_16, b_X4_carries_24_27, b_X4_carries_24_31, d_X1_get_27, d_X1_get_25, am_rg_nI hk (by omega), am_rg3 hcr, am_C_v, am_bI_t hc, if_neg h2]
  · have h2 := h.mpr hc
    unfold am_dw at h2
    simp only [d_X4_carries_24, b_X4_carries_24_0, b_X4_carries_24_13, b_X4_carries_24_16, b_X4_carries_24_27, b_X4_carries_24_31, d_X1_get_27, d_X1_get_25, am_rg_nI hk (by omega), am_rg3 hcr, am_C_v, am_bI_f hc, if_pos h2]
theorem s_stands_24 (X : AMx) (R : Nat → Nat → Int32) (Z : Nat → Int32) (A : Nat → Nat → Int32) (Y : Nat → Int32) (a : Int32) : am_D X 33 [.ref 24, .int a] (am_WH R Z A Y) = some (some (.int (am_bI (am_hs (Z 9) a))), am_WH R Z A Y) := by
  simp only [d_X4_stands_24, b_X4_stands_24_0, b_X4_stands_24_8, s_has, am_C_v, am_C_0, am_ue, if_true, if_false, eq_self, am_10, ite_not, Nat.reduceEqDiff, reduceIte]
  by_cases h : am_hs (Z 9) a
  · rw [am_bI_t h]; rfl
  · rw [am_bI_f h]; rfl
theorem s_doesBear (X : AMx) (R : Nat → Nat → Int32) (Z : Nat → Int32) (A : Nat → Nat → Int32) (Y : Nat → Int32) {c l : Int32} (hc : am_rn c 0 2) (hdn : ∀ c, c < 3 → am_rn (A 2 c) (-9) 9) (hbe : am_rn (Y 1) 0 18) (hl : am_rn l (-9) 9) : am_D X 103 [.ref 88, .int l, .int c] (am_WH R Z A Y) = some (some (.int (am_bI (am_bs (Y 1) (A 2 c.toNatClampNeg) l))), am_WH R Z A Y) := by
  obtain ⟨i, hi, rfl⟩ := am_rn_ix hc (n := 3) (by omega) (by omega)
  have h := am_in_cs hbe (hdn i hi) hl
  rw [am_cl (by omega)]
  by_cases hcs : am_bs (Y 1) (A 2 i) l
  · simp only [d_X6_doesBear, b_X6_doesBear_0, b_X6_doesBear_7, b_X6_doesBear_20, if_pos (am_in_nI hi (by omega)), am_cl (by omega : i < 2 ^ 31), s_in, am_C_v, am_C_0, am_ue, if_true, if_false, eq_self, am_10, ite_not, Nat.reduceEqDiff, reduceIte, am_bI_t hcs, am_bI_t (h.mpr hcs)]
  · simp only [d_X6_doesBear, b_X6_doesBear_0, b_X6_doesBear_7, b_X6_doesBear_20, if_pos (am_in_nI hi (by omega)), am_cl (by omega : i < 2 ^ 31), s_in, am_C_v, am_C_0, am_ue, if_true, if_false, eq_self, am_10, ite_not, Nat.reduceEqDiff, reduceIte, am_bI_f hcs, am_bI_f (fun z => hcs (h.mp z))]
theorem s_mbear (X : AMx) (R : Nat → Nat → Int32) (Z : Nat → Int32) (A : Nat → Nat → Int32) (Y : Nat → Int32) (b k : Nat) {l : Int32} (hc : am_rn (A b k) 0 2) (hdn : ∀ c, c < 3 → am_rn (A 2 c) (-9) 9) (hbe : am_rn (Y 1) 0 18) (hl : am_rn l (-9) 9) : am_D X 103 [.ref 88, .int l, .int (A b k)] (am_WH R Z A Y) = some (some (.int (am_bI (am_bs (Y 1) (am_dw (A 2) (A b) k) l))), am_WH R Z A Y) := s_doesBear X R Z A Y hc hdn hbe hl
/-! a set out of a property -/
def am_orf (P : Nat → Bool) : Nat → Int32
  | 0 => 0
  | n + 1 => if P n = true then am_orf P n ||| ((1 : Int32) <<< (nI n &&& 31)) else am_orf P n
theorem am_orf_cong {P Q : Nat → Bool} : ∀ {n : Nat}, (∀ k, k < n → P k = Q k) → am_orf P n = am_orf Q n
  | 0, _ => rfl
  | n + 1, h => by
    show (if P n = true then _ else _) = (if Q n = true then _ else _)
    rw [h n (by omega), am_orf_cong (fun k hk => h k (by omega))]
theorem am_orf_bt {P : Nat → Bool} : ∀ {n : Nat}, n ≤ 32 → ∀ {i : Nat}, i < 32 → bt (am_orf P n) i = (decide (i < n) && P i)
  | 0, _, i, hi => by
    show bt 0 i = _
    rw [b_0]; simp
  | n + 1, hn, i, hi => by
    have ih := am_orf_bt (P := P) (n := n) (by omega) hi
    show bt (if P n = true then _ else _) i = _
    by_cases hP : P n = true
    · rw [if_pos hP, b_or, ih, b_bit n (by omega) hi]
      by_cases e : i = n
      · subst e; simp [hP]
      · by_cases h2 : i < n
        · simp [h2, e, Nat.lt_succ_of_lt h2]
        · have : ¬ i < n + 1 := by omega
          simp [h2, e, this]
    · rw [if_neg hP, ih]
      by_cases e : i = n
      · subst e; simp [hP]
      · by_cases h2 : i < n
        · simp [h2, Nat.lt_succ_of_lt h2]
        · have : ¬ i < n + 1 := by omega
          simp [h2, this]
theorem op_bears (X : AMx) (a : Int32) : am_OP X 64 128 [.int a] := by
  intro R Z A Y hI
  have v0 : Z 0 = Y 1 ∧ am_rn (Z 0) 0 18 := hI.1 0
  have v1 : Z 1 = Y 0 ∧ am_rn (Z 1) 0 127 := hI.1 1
  have v2 : Z 2 = A 0 30 ∧ am_rn (Z 2) 0 255 := hI.1 2
  have v7 : ∀ i, i < 3 → R 0 i = A 2 i ∧ am_rn (R 0 i) (-9) 9 := hI.1 7
  have v8 : ∀ i, i < 7 → R 1 i = A 0 i ∧ am_rn (R 1 i) 0 2 := hI.1 8
  have v11 : ∀ i, i < 8 → R 4 i = A 0 (14 + i) ∧ am_rn (R 4 i) (-9) 9 := hI.1 11
  have q1 := am_hs_bt v1.2 (k := 7) (by omega) (by omega) a
  have q2 := am_mh_bt (b := Y 0) (k := 7) (by omega) (m := 6) (by decide) a
  by_cases h : ∃ j, j < 7 ∧ a = nI j ∧ bt (Z 1) j = true
  · have h1 := q1.mpr h
    have h2 := q2.mpr (by rw [← v1.1]; exact h)
    obtain ⟨i, hi, rfl, hb⟩ := h
    have kc : ∀ d w, w + d = 8 → am_E X AM_X4_wallsFor 4 [some (.ref 1), some (.int (nI i)), some (.int (am_orf (fun w => bt (Z 2) w && decide (am_bs (Z 0) (am_dw (R 0) (R 1) i) (R 4 w))) w)), some (.int (nI w))] [] (am_WH R Z A Y) = some (some (.int (am_orf (fun w => bt (Z 2) w && decide (am_bs (Z 0) (am_dw (R 0) (R 1) i) (R 4 w))) 8)), am_WH R Z A Y) := by
      intro d
      induction d with
      | zero =>
        intro w hw
        obtain rfl : w = 8 := by omega
        rw [b_X4_wallsFor_1_4, if_pos (show (8 : Int32) ≤ nI 8 from Int32.le_refl _), b_X4_wallsFor_1_46]
      | succ d ih =>
        intro w hw
        rw [b_X4_wallsFor_1_4, if_neg (show ¬ (8 : Int32) ≤ nI w from nI_ge (a := w) (b := 8) (by omega) (by omega)), b_X4_wallsFor_1_10, s_stands_1, am_C_v, b_X4_wallsFor_1_15]
        have ih' := ih (w + 1) (by omega)
        by_cases g1 : bt (Z 2) w = true
        · rw [am_bI_t ((am_hs_nI (by omega)).mpr g1), if_neg (by decide), b_X4_wallsFor_1_18, d_X1_get_10, am_rg_nI (by omega) (by omega), am_C_v, b_X4_wallsFor_1_27, s_carries_1 X R Z A Y hi (v8 i hi).2 (fun c hc => (v7 c hc).2) v0.2 (v11 w (by omega)).2, am_C_v, b_X4_wallsFor_1_31]
          by_cases g2 : am_bs (Z 0) (am_dw (R 0) (R 1) i) (R 4 w)
          · rw [am_bI_t g2, if_neg (by decide), b_X4_wallsFor_1_34, nI_1]
            rw [am_orf, if_pos (by simp [g1, g2])] at ih'
            exact ih'
          · rw [am_bI_f g2, if_pos rfl, b_X4_wallsFor_1_40, nI_1]
            rw [am_orf, if_neg (by simp [g2])] at ih'
            exact ih'
        · rw [am_bI_f (fun z => g1 ((am_hs_nI (by omega)).mp z)), if_pos rfl, b_X4_wallsFor_1_40, nI_1]
          rw [am_orf, if_neg (by simp [g1])] at ih'
          exact ih'
    have km : ∀ d w, w + d = 8 → am_E X AM_X6_bears 14 [some (.ref 88), some (.int (nI i)), some (.int (am_orf (fun w => bt (A 0 30) w && decide (am_bs (Y 1) (am_dw (A 2) (A 0) i) (A 0 (14 + w)))) w)), some (.int (nI w))] [] (am_WH R Z A Y) = some (some (.int (am_orf (fun w => bt (A 0 30) w && decide (am_bs (Y 1) (am_dw (A 2) (A 0) i) (A 0 (14 + w)))) 8)), am_WH R Z A Y) := by
      intro d
      induction d with
      | zero =>
        intro w hw
        obtain rfl : w = 8 := by omega
        rw [b_X6_bears_14, if_pos (show (8 : Int32) ≤ nI 8 from Int32.le_refl _), b_X6_bears_72]
      | succ d ih =>
        intro w hw
        have ih' := ih (w + 1) (by omega)
        have hc : am_rn (A 0 i) 0 2 := by rw [← (v8 i hi).1]; exact (v8 i hi).2
        have hl : am_rn (A 0 (14 + w)) (-9) 9 := by rw [← (v11 w (by omega)).1]; exact (v11 w (by omega)).2
        rw [b_X6_bears_14, if_neg (show ¬ (8 : Int32) ≤ nI w from nI_ge (a := w) (b := 8) (by omega) (by omega)), b_X6_bears_20, if_pos (show am_in (30 : Int32) 32 by decide), show (30 : Int32).toNatClampNeg = 30 from rfl, b_X6_bears_28, s_mhas, am_C_v, b_X6_bears_32]
        by_cases g1 : bt (A 0 30) w = true
        · rw [am_bI_t ((b_one w (by omega) _).mpr g1), if_neg (by decide), b_X6_bears_35, am_a14, if_pos (am_in_nI (n := 32) (i := 14 + w) (by omega) (by omega)), am_cl (by omega), b_X6_bears_45, if_pos (am_in_nI (n := 32) (i := i) (by omega) (by omega)), am_cl (by omega), b_X6_bears_51, s_mbear X R Z A Y 0 i hc (fun c hc => by rw [← (v7 c hc).1]; exact (v7 c hc).2) (by rw [← v0.1]; exact v0.2) hl, am_C_v, b_X6_bears_54]
          by_cases g2 : am_bs (Y 1) (am_dw (A 2) (A 0) i) (A 0 (14 + w))
          · rw [am_bI_t g2, if_neg (by decide), b_X6_bears_57, nI_1]
            rw [am_orf, if_pos (by simp [g1, g2])] at ih'
            exact ih'
          · rw [am_bI_f g2, if_pos rfl, b_X6_bears_63, nI_1, Int32.or_zero]
            rw [am_orf, if_neg (by simp [g2])] at ih'
            exact ih'
        · rw [am_bI_f (fun z => g1 ((b_one w (by omega) _).mp z)), if_pos rfl, b_X6_bears_63, nI_1, Int32.or_zero]
          rw [am_orf, if_neg (by simp [g1])] at ih'
          exact ih'
    have hdw : am_dw (R 0) (R 1) i = am_dw (A 2) (A 0) i := by
      obtain ⟨c, hc, e⟩ := am_rn_ix (v8 i hi).2 (n := 3) (by omega) (by omega)
      unfold am_dw
      rw [← (v8 i hi).1, e, am_cl (by omega), (v7 c hc).1]
    have heq : am_orf (fun w => bt (Z 2) w && decide (am_bs (Z 0) (am_dw (R 0) (R 1) i) (R 4 w))) 8 = am_orf (fun w => bt (A 0 30) w && decide (am_bs (Y 1) (am_dw (A 2) (A 0) i) (A 0 (14 + w)))) 8 := am_orf_cong (fun w hw => by rw [v2.1, v0.1, hdw, (v11 w hw).1])
    refine ⟨.int (am_orf (fun w => bt (Z 2) w && decide (am_bs (Z 0) (am_dw (R 0) (R 1) i) (R 4 w))) 8), R, Z, A, Y, ?_, ?_, hI⟩
    · have k := kc 8 0 (by omega)
      simp only [d_X5_bears, b_X5_bears_0, b_X5_bears_8, b_X5_bears_11, b_X5_bears_19, b_X5_bears_22, s_isThere, am_C_v, am_C_0, am_ue, if_true, if_false, eq_self, am_10, ite_not, Nat.reduceEqDiff, reduceIte, am_bI_t h1, d_X4_wallsFor_1, b_X4_wallsFor_1_0]
      rw [show (0 : Int32) = am_orf (fun w => bt (Z 2) w && decide (am_bs (Z 0) (am_dw (R 0) (R 1) i) (R 4 w))) 0 from rfl]
      rw [show am_E X AM_X4_wallsFor 4 [some (.ref 1), some (.int (nI i)), some (.int (am_orf (fun w => bt (Z 2) w && decide (am_bs (Z 0) (am_dw (R 0) (R 1) i) (R 4 w))) 0)), some (.int (am_orf (fun w => bt (Z 2) w && decide (am_bs (Z 0) (am_dw (R 0) (R 1) i) (R 4 w))) 0))] [] (am_WH R Z A Y) = _ from k, am_C_v, b_X5_bears_19]
    · have k := km 8 0 (by omega)
      rw [heq]
      simp only [d_X6_bears, b_X6_bears_0, b_X6_bears_5, b_X6_bears_8, b_X6_bears_10, b_X6_bears_20, b_X6_bears_28, b_X6_bears_32, b_X6_bears_35, b_X6_bears_45, b_X6_bears_51, b_X6_bears_54, b_X6_bears_57, b_X6_bears_63, b_X6_bears_72, s_misThere, am_C_v, am_C_0, am_ue, if_true, if_false, eq_self, am_10, ite_not, Nat.reduceEqDiff, reduceIte, am_bI_t h2]
      exact k
  · have h1 := fun z => h (q1.mp z)
    have h2 := fun z => h (by rw [v1.1]; exact q2.mp z)
    refine ⟨.int (-1), R, Z, A, Y, ?_, ?_, hI⟩
    · simp only [d_X5_bears, b_X5_bears_0, b_X5_bears_8, b_X5_bears_11, b_X5_bears_19, b_X5_bears_22, s_isThere, am_C_v, am_C_0, am_ue, if_true, if_false, eq_self, am_10, ite_not, Nat.reduceEqDiff, reduceIte, am_bI_f h1]
    · simp only [d_X6_bears, b_X6_bears_0, b_X6_bears_5, b_X6_bears_8, b_X6_bears_10, b_X6_bears_20, b_X6_bears_28, b_X6_bears_32, b_X6_bears_35, b_X6_bears_45, b_X6_bears_51, b_X6_bears_54, b_X6_bears_57, b_X6_bears_63, b_X6_bears_72, s_misThere, am_C_v, am_C_0, am_ue, if_true, if_false, eq_self, am_10, ite_not, Nat.reduceEqDiff, reduceIte, am_bI_f h2]
