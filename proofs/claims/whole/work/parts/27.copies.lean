/-! copies of valleys; the reference's rows of years begin. -/
def am_cr (d s : Nat) (R : Nat → Nat → Int32) : Nat → Nat → Int32 := am_up (am_up (am_up (am_up (am_up (am_up (am_up (am_up (am_up (R) d (am_rc 3 (R d) (R s))) (d + 1) (am_rc 7 (R (d + 1)) (R (s + 1)))) (d + 2) (am_rc 7 (R (d + 2)) (R (s + 2)))) (d + 3) (am_rc 7 (R (d + 3)) (R (s + 3)))) (d + 4) (am_rc 8 (R (d + 4)) (R (s + 4)))) (d + 5) (am_rc 8 (R (d + 5)) (R (s + 5)))) (d + 6) (am_rc 12 (R (d + 6)) (R (s + 6)))) (d + 7) (am_rc 12 (R (d + 7)) (R (s + 7)))) (d + 8) (am_rc 12 (R (d + 8)) (R (s + 8)))
def am_cz (d s : Nat) (Z : Nat → Int32) : Nat → Int32 := am_up (am_up (am_up (am_up (am_up (am_up (am_up (Z) d (Z s)) (d + 1) (Z (s + 1))) (d + 2) (Z (s + 2))) (d + 3) (Z (s + 3))) (d + 4) (Z (s + 4))) (d + 5) (Z (s + 5))) (d + 6) (Z (s + 6))
def am_ln : Nat → Nat
  | 0 => 3
  | 1 => 7
  | 2 => 7
  | 3 => 7
  | 4 => 8
  | 5 => 8
  | 6 => 12
  | 7 => 12
  | 8 => 12
  | _ + 9 => 0
theorem am_cr_o {d s j : Nat} (R : Nat → Nat → Int32) (h : j < d ∨ d + 9 ≤ j) : am_cr d s R j = R j := by
  unfold am_cr
  rw [am_up_n _ _ (by omega), am_up_n _ _ (by omega), am_up_n _ _ (by omega), am_up_n _ _ (by omega), am_up_n _ _ (by omega), am_up_n _ _ (by omega), am_up_n _ _ (by omega), am_up_n _ _ (by omega), am_up_n _ _ (by omega)]
theorem am_cz_o {d s j : Nat} (Z : Nat → Int32) (h : j < d ∨ d + 7 ≤ j) : am_cz d s Z j = Z j := by
  unfold am_cz
  rw [am_up_n _ _ (by omega), am_up_n _ _ (by omega), am_up_n _ _ (by omega), am_up_n _ _ (by omega), am_up_n _ _ (by omega), am_up_n _ _ (by omega), am_up_n _ _ (by omega)]
theorem am_cr_0 {d s i : Nat} (R : Nat → Nat → Int32) (h : i < 3) : am_cr d s R (d + 0) i = R (s + 0) i := by
  unfold am_cr
  rw [am_up_n _ _ (by omega), am_up_n _ _ (by omega), am_up_n _ _ (by omega), am_up_n _ _ (by omega), am_up_n _ _ (by omega), am_up_n _ _ (by omega), am_up_n _ _ (by omega), am_up_n _ _ (by omega), show d + 0 = d from rfl, am_up_s, show s + 0 = s from rfl]
  unfold am_rc
  rw [if_pos h]
theorem am_cr_1 {d s i : Nat} (R : Nat → Nat → Int32) (h : i < 7) : am_cr d s R (d + 1) i = R (s + 1) i := by
  unfold am_cr
  rw [am_up_n _ _ (by omega), am_up_n _ _ (by omega), am_up_n _ _ (by omega), am_up_n _ _ (by omega), am_up_n _ _ (by omega), am_up_n _ _ (by omega), am_up_n _ _ (by omega), am_up_s]
  unfold am_rc
  rw [if_pos h]
theorem am_cr_2 {d s i : Nat} (R : Nat → Nat → Int32) (h : i < 7) : am_cr d s R (d + 2) i = R (s + 2) i := by
  unfold am_cr
  rw [am_up_n _ _ (by omega), am_up_n _ _ (by omega), am_up_n _ _ (by omega), am_up_n _ _ (by omega), am_up_n _ _ (by omega), am_up_n _ _ (by omega), am_up_s]
  unfold am_rc
  rw [if_pos h]
theorem am_cr_3 {d s i : Nat} (R : Nat → Nat → Int32) (h : i < 7) : am_cr d s R (d + 3) i = R (s + 3) i := by
  unfold am_cr
  rw [am_up_n _ _ (by omega), am_up_n _ _ (by omega), am_up_n _ _ (by omega), am_up_n _ _ (by omega), am_up_n _ _ (by omega), am_up_s]
  unfold am_rc
  rw [if_pos h]
theorem am_cr_4 {d s i : Nat} (R : Nat → Nat → Int32) (h : i < 8) : am_cr d s R (d + 4) i = R (s + 4) i := by
  unfold am_cr
  rw [am_up_n _ _ (by omega), am_up_n _ _ (by omega), am_up_n _ _ (by omega), am_up_n _ _ (by omega), am_up_s]
  unfold am_rc
  rw [if_pos h]
theorem am_cr_5 {d s i : Nat} (R : Nat → Nat → Int32) (h : i < 8) : am_cr d s R (d + 5) i = R (s + 5) i := by
  unfold am_cr
  rw [am_up_n _ _ (by omega), am_up_n _ _ (by omega), am_up_n _ _ (by omega), am_up_s]
  unfold am_rc
  rw [if_pos h]
theorem am_cr_6 {d s i : Nat} (R : Nat → Nat → Int32) (h : i < 12) : am_cr d s R (d + 6) i = R (s + 6) i := by
  unfold am_cr
  rw [am_up_n _ _ (by omega), am_up_n _ _ (by omega), am_up_s]
  unfold am_rc
  rw [if_pos h]
theorem am_cr_7 {d s i : Nat} (R : Nat → Nat → Int32) (h : i < 12) : am_cr d s R (d + 7) i = R (s + 7) i := by
  unfold am_cr
  rw [am_up_n _ _ (by omega), am_up_s]
  unfold am_rc
  rw [if_pos h]
theorem am_cr_8 {d s i : Nat} (R : Nat → Nat → Int32) (h : i < 12) : am_cr d s R (d + 8) i = R (s + 8) i := by
  unfold am_cr
  rw [am_up_s]
  unfold am_rc
  rw [if_pos h]
theorem am_cz_0 {d s : Nat} (Z : Nat → Int32) : am_cz d s Z (d + 0) = Z (s + 0) := by
  unfold am_cz
  rw [am_up_n _ _ (by omega), am_up_n _ _ (by omega), am_up_n _ _ (by omega), am_up_n _ _ (by omega), am_up_n _ _ (by omega), am_up_n _ _ (by omega), show d + 0 = d from rfl, am_up_s, show s + 0 = s from rfl]
theorem am_cz_1 {d s : Nat} (Z : Nat → Int32) : am_cz d s Z (d + 1) = Z (s + 1) := by
  unfold am_cz
  rw [am_up_n _ _ (by omega), am_up_n _ _ (by omega), am_up_n _ _ (by omega), am_up_n _ _ (by omega), am_up_n _ _ (by omega), am_up_s]
theorem am_cz_2 {d s : Nat} (Z : Nat → Int32) : am_cz d s Z (d + 2) = Z (s + 2) := by
  unfold am_cz
  rw [am_up_n _ _ (by omega), am_up_n _ _ (by omega), am_up_n _ _ (by omega), am_up_n _ _ (by omega), am_up_s]
theorem am_cz_3 {d s : Nat} (Z : Nat → Int32) : am_cz d s Z (d + 3) = Z (s + 3) := by
  unfold am_cz
  rw [am_up_n _ _ (by omega), am_up_n _ _ (by omega), am_up_n _ _ (by omega), am_up_s]
theorem am_cz_4 {d s : Nat} (Z : Nat → Int32) : am_cz d s Z (d + 4) = Z (s + 4) := by
  unfold am_cz
  rw [am_up_n _ _ (by omega), am_up_n _ _ (by omega), am_up_s]
theorem am_cz_5 {d s : Nat} (Z : Nat → Int32) : am_cz d s Z (d + 5) = Z (s + 5) := by
  unfold am_cz
  rw [am_up_n _ _ (by omega), am_up_s]
theorem am_cz_6 {d s : Nat} (Z : Nat → Int32) : am_cz d s Z (d + 6) = Z (s + 6) := by
  unfold am_cz
  rw [am_up_s]
theorem s_copyFrom_24_1 (X : AMx) (R : Nat → Nat → Int32) (Z : Nat → Int32) (A : Nat → Nat → Int32) (Y : Nat → Int32) : am_D X 30 [.ref 24, .ref 1] (am_WH R Z A Y) = some (none, am_WH (am_cr 9 0 R) (am_cz 7 0 Z) A Y) := by
  simp only [d_X4_copyFrom_24_1, b_X4_copyFrom_24_1_0, b_X4_copyFrom_24_1_11, b_X4_copyFrom_24_1_38, b_X4_copyFrom_24_1_49, b_X4_copyFrom_24_1_60, b_X4_copyFrom_24_1_79, b_X4_copyFrom_24_1_90, b_X4_copyFrom_24_1_109, b_X4_copyFrom_24_1_120, b_X4_copyFrom_24_1_131, d_X1_copyFrom_25_2, d_X1_copyFrom_27_4, d_X1_copyFrom_29_6, d_X1_copyFrom_31_8, d_X1_copyFrom_33_10, d_X1_copyFrom_35_12, d_X1_copyFrom_37_14, d_X1_copyFrom_39_16, d_X1_copyFrom_41_18, am_C_v, am_C_0, am_ue, if_true, if_false, eq_self, am_10, ite_not, Nat.reduceEqDiff, reduceIte, am_cr, am_cz, Nat.reduceAdd]
theorem s_copyFrom_1_24 (X : AMx) (R : Nat → Nat → Int32) (Z : Nat → Int32) (A : Nat → Nat → Int32) (Y : Nat → Int32) : am_D X 30 [.ref 1, .ref 24] (am_WH R Z A Y) = some (none, am_WH (am_cr 0 9 R) (am_cz 0 7 Z) A Y) := by
  simp only [d_X4_copyFrom_1_24, b_X4_copyFrom_1_24_0, b_X4_copyFrom_1_24_11, b_X4_copyFrom_1_24_38, b_X4_copyFrom_1_24_49, b_X4_copyFrom_1_24_60, b_X4_copyFrom_1_24_79, b_X4_copyFrom_1_24_90, b_X4_copyFrom_1_24_109, b_X4_copyFrom_1_24_120, b_X4_copyFrom_1_24_131, d_X1_copyFrom_2_25, d_X1_copyFrom_4_27, d_X1_copyFrom_6_29, d_X1_copyFrom_8_31, d_X1_copyFrom_10_33, d_X1_copyFrom_12_35, d_X1_copyFrom_14_37, d_X1_copyFrom_16_39, d_X1_copyFrom_18_41, am_C_v, am_C_0, am_ue, if_true, if_false, eq_self, am_10, ite_not, Nat.reduceEqDiff, reduceIte, am_cr, am_cz, Nat.reduceAdd]
theorem s_copyFrom_50_1 (X : AMx) (R : Nat → Nat → Int32) (Z : Nat → Int32) (A : Nat → Nat → Int32) (Y : Nat → Int32) : am_D X 30 [.ref 50, .ref 1] (am_WH R Z A Y) = some (none, am_WH (am_cr 18 0 R) (am_cz 14 0 Z) A Y) := by
  simp only [d_X4_copyFrom_50_1, b_X4_copyFrom_50_1_0, b_X4_copyFrom_50_1_11, b_X4_copyFrom_50_1_38, b_X4_copyFrom_50_1_49, b_X4_copyFrom_50_1_60, b_X4_copyFrom_50_1_79, b_X4_copyFrom_50_1_90, b_X4_copyFrom_50_1_109, b_X4_copyFrom_50_1_120, b_X4_copyFrom_50_1_131, d_X1_copyFrom_51_2, d_X1_copyFrom_53_4, d_X1_copyFrom_55_6, d_X1_copyFrom_57_8, d_X1_copyFrom_59_10, d_X1_copyFrom_61_12, d_X1_copyFrom_63_14, d_X1_copyFrom_65_16, d_X1_copyFrom_67_18, am_C_v, am_C_0, am_ue, if_true, if_false, eq_self, am_10, ite_not, Nat.reduceEqDiff, reduceIte, am_cr, am_cz, Nat.reduceAdd]
theorem s_copyFrom_69_1 (X : AMx) (R : Nat → Nat → Int32) (Z : Nat → Int32) (A : Nat → Nat → Int32) (Y : Nat → Int32) : am_D X 30 [.ref 69, .ref 1] (am_WH R Z A Y) = some (none, am_WH (am_cr 27 0 R) (am_cz 21 0 Z) A Y) := by
  simp only [d_X4_copyFrom_69_1, b_X4_copyFrom_69_1_0, b_X4_copyFrom_69_1_11, b_X4_copyFrom_69_1_38, b_X4_copyFrom_69_1_49, b_X4_copyFrom_69_1_60, b_X4_copyFrom_69_1_79, b_X4_copyFrom_69_1_90, b_X4_copyFrom_69_1_109, b_X4_copyFrom_69_1_120, b_X4_copyFrom_69_1_131, d_X1_copyFrom_70_2, d_X1_copyFrom_72_4, d_X1_copyFrom_74_6, d_X1_copyFrom_76_8, d_X1_copyFrom_78_10, d_X1_copyFrom_80_12, d_X1_copyFrom_82_14, d_X1_copyFrom_84_16, d_X1_copyFrom_86_18, am_C_v, am_C_0, am_ue, if_true, if_false, eq_self, am_10, ite_not, Nat.reduceEqDiff, reduceIte, am_cr, am_cz, Nat.reduceAdd]
theorem s_copyFrom_1_50 (X : AMx) (R : Nat → Nat → Int32) (Z : Nat → Int32) (A : Nat → Nat → Int32) (Y : Nat → Int32) : am_D X 30 [.ref 1, .ref 50] (am_WH R Z A Y) = some (none, am_WH (am_cr 0 18 R) (am_cz 0 14 Z) A Y) := by
  simp only [d_X4_copyFrom_1_50, b_X4_copyFrom_1_50_0, b_X4_copyFrom_1_50_11, b_X4_copyFrom_1_50_38, b_X4_copyFrom_1_50_49, b_X4_copyFrom_1_50_60, b_X4_copyFrom_1_50_79, b_X4_copyFrom_1_50_90, b_X4_copyFrom_1_50_109, b_X4_copyFrom_1_50_120, b_X4_copyFrom_1_50_131, d_X1_copyFrom_2_51, d_X1_copyFrom_4_53, d_X1_copyFrom_6_55, d_X1_copyFrom_8_57, d_X1_copyFrom_10_59, d_X1_copyFrom_12_61, d_X1_copyFrom_14_63, d_X1_copyFrom_16_65, d_X1_copyFrom_18_67, am_C_v, am_C_0, am_ue, if_true, if_false, eq_self, am_10, ite_not, Nat.reduceEqDiff, reduceIte, am_cr, am_cz, Nat.reduceAdd]
theorem s_copyFrom_1_69 (X : AMx) (R : Nat → Nat → Int32) (Z : Nat → Int32) (A : Nat → Nat → Int32) (Y : Nat → Int32) : am_D X 30 [.ref 1, .ref 69] (am_WH R Z A Y) = some (none, am_WH (am_cr 0 27 R) (am_cz 0 21 Z) A Y) := by
  simp only [d_X4_copyFrom_1_69, b_X4_copyFrom_1_69_0, b_X4_copyFrom_1_69_11, b_X4_copyFrom_1_69_38, b_X4_copyFrom_1_69_49, b_X4_copyFrom_1_69_60, b_X4_copyFrom_1_69_79, b_X4_copyFrom_1_69_90, b_X4_copyFrom_1_69_109, b_X4_copyFrom_1_69_120, b_X4_copyFrom_1_69_131, d_X1_copyFrom_2_70, d_X1_copyFrom_4_72, d_X1_copyFrom_6_74, d_X1_copyFrom_8_76, d_X1_copyFrom_10_78, d_X1_copyFrom_12_80, d_X1_copyFrom_14_82, d_X1_copyFrom_16_84, d_X1_copyFrom_18_86, am_C_v, am_C_0, am_ue, if_true, if_false, eq_self, am_10, ite_not, Nat.reduceEqDiff, reduceIte, am_cr, am_cz, Nat.reduceAdd]
theorem am_VR_cp {r r' : Nat → Nat → Int32} {z z' : Nat → Int32} {bk dn kn fr to sl sg bk' dn' kn' fr' to' sl' sg' : Nat → Int32} {be th st si be' th' st' si' : Int32} (hr : ∀ j i, i < am_ln j → r' j i = r j i) (hz : ∀ j, j < 7 → z' j = z j) (h1 : ∀ k, k < 32 → bk' k = bk k) (h2 : ∀ k, k < 3 → dn' k = dn k) (h3 : ∀ k, k < 7 → kn' k = kn k) (h4 : ∀ k, k < 12 → fr' k = fr k) (h5 : ∀ k, k < 12 → to' k = to k) (h6 : ∀ k, k < 12 → sl' k = sl k) (h7 : ∀ k, k < 16 → sg' k = sg k) (e1 : be' = be) (e2 : th' = th) (e3 : st' = st) (e4 : si' = si) (h : ∀ i, am_VR r z bk dn kn fr to sl sg be th st si i) : ∀ i, am_VR r' z' bk' dn' kn' fr' to' sl' sg' be' th' st' si' i := by
  subst e1; subst e2; subst e3; subst e4
  have v6 := am_V6 h
  refine am_VR_mk ?_ ?_ ?_ ?_ ?_ ?_ ?_ ?_ ?_ ?_ ?_ ?_ ?_ ?_ ?_ ?_
  · rw [hz 0 (by omega)]; exact am_V0 h
  · rw [hz 1 (by omega)]; exact am_V1 h
  · rw [hz 2 (by omega), h1 30 (by omega)]; exact am_V2 h
  · rw [hz 3 (by omega)]; exact am_V3 h
  · rw [hz 4 (by omega), h1 31 (by omega)]; exact am_V4 h
  · rw [hz 5 (by omega)]; exact am_V5 h
  · rw [hz 5 (by omega), hz 6 (by omega)]
    refine ⟨v6.1, fun v hv => (v6.2 v hv).trans ?_⟩
    have hn : (z 5).toNatClampNeg ≤ 8 := by
      have := (am_V5 h).2.2
      have e : (z 5).toNatClampNeg = (z 5).toInt.toNat := rfl
      omega
    exact (am_fit_cong (fun i hi => h7 i (by omega))).symm
  · intro i hi; rw [hr 0 i hi, h2 i hi]; exact am_V7 h i hi
  · intro i hi; rw [hr 1 i hi, h1 i (by omega)]; exact am_V8 h i hi
  · intro i hi; rw [hr 2 i hi, h1 (7 + i) (by omega)]; exact am_V9 h i hi
  · intro i hi; rw [hr 3 i hi, h3 i hi]; exact am_V10 h i hi
  · intro i hi; rw [hr 4 i hi, h1 (14 + i) (by omega)]; exact am_V11 h i hi
  · intro i hi; rw [hr 5 i hi, h1 (22 + i) (by omega)]; exact am_V12 h i hi
  · intro i hi; rw [hr 6 i hi, h4 i hi]; exact am_V13 h i hi
  · intro i hi; rw [hr 7 i hi, h5 i hi]; exact am_V14 h i hi
  · intro i hi; rw [hr 8 i hi, h6 i hi]; exact am_V15 h i hi
theorem am_cr_in {d s : Nat} (R : Nat → Nat → Int32) : ∀ j i, i < am_ln j → am_cr d s R (d + j) i = R (s + j) i
  | 0, _, h => am_cr_0 R h
  | 1, _, h => am_cr_1 R h
  | 2, _, h => am_cr_2 R h
  | 3, _, h => am_cr_3 R h
  | 4, _, h => am_cr_4 R h
  | 5, _, h => am_cr_5 R h
  | 6, _, h => am_cr_6 R h
  | 7, _, h => am_cr_7 R h
  | 8, _, h => am_cr_8 R h
  | _ + 9, _, h => absurd h (Nat.not_lt_zero _)
theorem am_cz_in {d s : Nat} (Z : Nat → Int32) : ∀ j, j < 7 → am_cz d s Z (d + j) = Z (s + j)
  | 0, _ => am_cz_0 Z
  | 1, _ => am_cz_1 Z
  | 2, _ => am_cz_2 Z
  | 3, _ => am_cz_3 Z
  | 4, _ => am_cz_4 Z
  | 5, _ => am_cz_5 Z
  | 6, _ => am_cz_6 Z
  | j + 7, h => absurd h (by omega)
/-- the reference's row of years -/
theorem s_asNow (X : AMx) (R : Nat → Nat → Int32) (Z : Nat → Int32) (A : Nat → Nat → Int32) (Y : Nat → Int32) : am_D X 115 [.ref 88] (am_WH R Z A Y) = some (none, am_WH R Z (am_up A 1 (am_rc 32 (A 1) (A 0))) (am_up (am_up (am_up Y 5 0) 6 (-6)) 7 (-6))) := by
  have k := am_loop (E := fun k => am_E X AM_X6_asNow 2 [some (.ref 88), some (.int (nI k))] [] (am_WH R Z (am_up A 1 (am_rc k (A 1) (A 0))) Y)) (r := some (none, am_WH R Z (am_up A 1 (am_rc 32 (A 1) (A 0))) (am_up (am_up (am_up Y 5 0) 6 (-6)) 7 (-6)))) 32 (by
    try dsimp only
    rw [b_X6_asNow_2, if_pos (show (32 : Int32) ≤ nI 32 by decide), b_X6_asNow_26]) (by
    intro k hk
    try dsimp only
    rw [b_X6_asNow_2, if_neg (show ¬ (32 : Int32) ≤ nI k from nI_ge (a := k) (b := 32) (by omega) (by omega)), b_X6_asNow_8, if_pos (am_in_nI hk (by omega)), am_cl (by omega), b_X6_asNow_19, if_pos (am_in_nI hk (by omega)), am_cl (by omega), am_up_s, am_uu, am_up_n A _ (show (0 : Nat) ≠ 1 by omega), am_rc_s, b_X6_asNow_20, nI_1])
  rw [am_rc_0, am_up_self] at k
  rw [d_X6_asNow, b_X6_asNow_0]
  exact k
/-- telling begins: of both -/
theorem tell_start (X : AMx) {R : Nat → Nat → Int32} {Z : Nat → Int32} {A : Nat → Nat → Int32} {Y : Nat → Int32} (hI : am_INV R Z A Y) : ∃ (R' : Nat → Nat → Int32) (Z' : Nat → Int32) (A' : Nat → Nat → Int32) (Y' : Nat → Int32), am_TL R' Z' A' Y' 0 ∧ am_kp R Z A Y R' Z' A' Y' ∧ (Z' 29 = 0 ∧ Z' 30 = -6 ∧ Z' 31 = -6 ∧ Z' 32 = -6 ∧ Y' 6 = -6 ∧ Y' 8 = Y 8 ∧ Y' 9 = Y 9) ∧ (∀ (A : Nat → Nat → Int32) (Y : Nat → Int32), am_D X 24 [.ref 23, .ref 1] (am_WH R Z A Y) = some (none, am_WH R' Z' A Y)) ∧ (∀ (R : Nat → Nat → Int32) (Z : Nat → Int32), am_D X 115 [.ref 88] (am_WH R Z A Y) = some (none, am_WH R Z A' Y')) := by
  obtain ⟨R1, eR⟩ : ∃ R1, R1 = am_cr 9 0 R := ⟨_, rfl⟩
  obtain ⟨Z1, eZ⟩ : ∃ Z1, Z1 = am_cz 7 0 Z := ⟨_, rfl⟩
  have hO : am_OV R1 Z1 (am_up A 1 (am_rc 32 (A 1) (A 0))) Y := by
    refine am_VR_cp (r := fun j => R j) (z := fun j => Z j) (bk := A 0) (dn := A 2) (kn := A 3) (fr := A 4) (to := A 5) (sl := A 6) (sg := A 7) (be := Y 1) (th := Y 0) (st := Y 2) (si := Y 3) (fun j i h => ?_) (fun j hj => ?_) (fun k hk => ?_) (fun _ _ => rfl) (fun _ _ => rfl) (fun _ _ => rfl) (fun _ _ => rfl) (fun _ _ => rfl) (fun _ _ => rfl) rfl rfl rfl rfl hI.1
    · show R1 (9 + j) i = R j i
      rw [eR, am_cr_in R j i h, Nat.zero_add]
    · show Z1 (7 + j) = Z j
      rw [eZ, am_cz_in Z j hj, Nat.zero_add]
    · rw [am_up_s]
      unfold am_rc
      rw [if_pos hk]
  refine ⟨R1, am_up (am_up (am_up (am_up (am_up (am_up Z1 29 0) 30 (-6)) 31 (-6)) 32 (-6)) 33 (-6)) 34 0, am_up A 1 (am_rc 32 (A 1) (A 0)), am_up (am_up (am_up Y 5 0) 6 (-6)) 7 (-6), ⟨(am_VR_mk (have q := am_V0 hO; q) (have q := am_V1 hO; q) (have q := am_V2 hO; q) (have q := am_V3 hO; q) (have q := am_V4 hO; q) (have q := am_V5 hO; q) (have q := am_V6 hO; q) (have q := am_V7 hO; q) (have q := am_V8 hO; q) (have q := am_V9 hO; q) (have q := am_V10 hO; q) (have q := am_V11 hO; q) (have q := am_V12 hO; q) (have q := am_V13 hO; q) (have q := am_V14 hO; q) (have q := am_V15 hO; q)), rfl, rfl, rfl⟩, ⟨fun j hj => ?_, fun j hj => ?_, fun j hj => am_up_n _ _ hj, fun j hj => ?_⟩, ⟨rfl, rfl, rfl, rfl, rfl, rfl, rfl⟩, fun A Y => ?_, fun R Z => s_asNow X R Z A Y⟩
  · rw [eR, am_cr_o R (by omega)]
  · rw [am_up_n _ _ (by omega), am_up_n _ _ (by omega), am_up_n _ _ (by omega), am_up_n _ _ (by omega), am_up_n _ _ (by omega), am_up_n _ _ (by omega), eZ, am_cz_o Z (by omega)]
  · rw [am_up_n _ _ (by omega), am_up_n _ _ (by omega), am_up_n _ _ (by omega)]
  · rw [d_X3_start, b_X3_start_0, s_copyFrom_24_1, am_C_0, b_X3_start_8, eR, eZ]
