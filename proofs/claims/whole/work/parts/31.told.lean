/-! judge, done, behind, wall, fell. -/
theorem tell_years (X : AMx) {R : Nat → Nat → Int32} {Z : Nat → Int32} {A : Nat → Nat → Int32} {Y : Nat → Int32} (hI : am_INV R Z A Y) {n : Nat} (hn : n ≤ 60) (hZ : Z 28 = nI n) (hfp : aw_fp (R 36) n n 0 0 = -6) : ∃ (R' : Nat → Nat → Int32) (Z' : Nat → Int32) (A' : Nat → Nat → Int32) (Y' : Nat → Int32) (f : Nat) (bad : Int32), am_TL R' Z' A' Y' f ∧ am_kp R Z A Y R' Z' A' Y' ∧ Z' 32 = Y' 6 ∧ Z' 29 = Y' 9 ∧ ((bad = -6 ∧ Z' 30 = -6 ∧ Z' 31 = -6) ∨ (0 ≤ bad ∧ Z' 30 = bad ∧ Z' 31 = Y' 8)) ∧ (∀ (A : Nat → Nat → Int32) (Y : Nat → Int32), am_D X 25 [.ref 23, .ref 20, .ref 1] (am_WH R Z A Y) = some (some (.int (am_bI (bad = -6))), am_WH R' Z' A Y)) ∧ (∀ (R : Nat → Nat → Int32) (Z : Nat → Int32), am_D X 121 [.ref 88] (am_WH R Z A Y) = some (some (.int bad), am_WH R Z A' Y')) := by
  obtain ⟨R1, Z1, A1, Y1, hT1, hK1, ⟨z29, z30, z31, z32, y6, y8, y9⟩, hc1, hm1⟩ := tell_start X hI
  obtain ⟨e1, r1, hp⟩ := hI.2.1
  have hS : am_ST n (R 36) R Z A Y := ⟨hZ, e1.symm.trans hZ, fun _ _ => rfl, fun j hj => (hp j hj).symm⟩
  have hK2 : am_kp R Z A Y R1 Z1 A1 (am_up Y1 9 0) := ⟨hK1.1, hK1.2.1, hK1.2.2.1, fun j hj => (am_up_n _ _ (by omega)).trans (hK1.2.2.2 j hj)⟩
  have hTY : am_TY R1 Z1 A1 (am_up Y1 9 0) 0 0 := ⟨am_TL_Y hT1 (fun j hj => am_up_n _ _ (by omega)), z29, am_up_s _ _ _, z32.trans y6.symm, fun _ => y6, fun z => absurd z (Nat.lt_irrefl 0), z30, z31⟩
  obtain ⟨R', Z', A', Y', f', bad, g1, g2, g3, g4, g5, g6, g7⟩ := l_years X hn n n (Nat.le_refl _) 0 (by omega) hfp R1 Z1 A1 (am_up Y1 9 0) 0 0 (am_ST_kp hS hK2) hTY (Nat.le_refl _) (Nat.le_refl _)
  rw [show nI 0 = (0 : Int32) from rfl] at g6 g7
  refine ⟨R', Z', A', Y', f', bad, g1, am_kp_trans hK2 g2, g3, g4, g5, fun A Y => ?_, fun R Z => ?_⟩
  · rw [d_X3_tellYears, b_X3_tellYears_0, hc1, am_C_0, b_X3_tellYears_5, s_faultPlace X R1 Z1 A Y hn ((hK1.2.1 28 (by omega)).trans hZ), hK1.1 36 (by omega), am_C_v, b_X3_tellYears_9, if_pos hfp, b_X3_tellYears_16, g6]
  · rw [d_X6_goYears, b_X6_goYears_0, hm1, am_C_0, b_X6_goYears_4, g7]
theorem tell_bar (X : AMx) {R : Nat → Nat → Int32} {Z : Nat → Int32} {A : Nat → Nat → Int32} {Y : Nat → Int32} (hI : am_INV R Z A Y) : ∃ (R' : Nat → Nat → Int32) (Z' : Nat → Int32) (A' : Nat → Nat → Int32) (Y' : Nat → Int32) (f : Nat) (b : Bool), am_kp R Z A Y R' Z' A' Y' ∧ (∀ (A : Nat → Nat → Int32) (Y : Nat → Int32), am_D X 25 [.ref 23, .ref 20, .ref 1] (am_WH R Z A Y) = some (some (.int (am_bI (b = true))), am_WH R' Z' A Y)) ∧ (∀ (R : Nat → Nat → Int32) (Z : Nat → Int32), am_D X 123 [.ref 88] (am_WH R Z A Y) = some (some (.int (if b = true then 0 else -5)), am_WH R Z A' Y')) ∧ (b = true → am_TL R' Z' A' Y' f ∧ Z' 32 = Y' 6 ∧ Z' 29 = Y' 9) := by
  obtain ⟨e1, r1, hp⟩ := hI.2.1
  obtain ⟨n, hn, en⟩ := am_rn_ix r1 (n := 61) (by omega) (by omega)
  have eY : Y 4 = nI n := e1.symm.trans en
  have efp : aw_fp (A 8) n n 0 0 = aw_fp (R 36) n n 0 0 := aw_fp_cong (fun j hj => (hp j (by omega)).symm)
  by_cases hfp : aw_fp (R 36) n n 0 0 = -6
  · obtain ⟨R', Z', A', Y', f, bad, g1, g2, g3, g4, g5, g6, g7⟩ := tell_years X hI (by omega) en hfp
    refine ⟨R', Z', A', Y', f, decide (bad = -6), g2, fun A Y => ?_, fun R Z => ?_, fun _ => ⟨g1, g3, g4⟩⟩
    · rw [g6]
      simp only [decide_eq_true_eq]
    · rw [d_X6_barOfYears, b_X6_barOfYears_0, s_faultOf X R Z A Y (by omega) eY, am_C_v, b_X6_barOfYears_4, efp, hfp, if_neg (by decide), b_X6_barOfYears_7, g7, am_C_v, b_X6_barOfYears_11]
      rcases g5 with h | h
      · rw [h.1, if_pos (by decide), b_X6_barOfYears_19]
        rfl
      · have h6 : ¬ bad = -6 := fun z => by rw [z] at h; exact absurd h.1 (by decide)
        rw [if_neg (Int32.not_lt.mpr h.1), b_X6_barOfYears_14, if_neg (by simp [h6])]
  · obtain ⟨j, hj, ej⟩ := (aw_fp_or (R 36) n 0 0 (by omega)).resolve_left hfp
    obtain ⟨R1, Z1, A1, Y1, hT1, hK1, _, hc1, hm1⟩ := tell_start X hI
    refine ⟨R1, Z1, A, Y, 0, false, ⟨hK1.1, hK1.2.1, fun _ _ => rfl, fun _ _ => rfl⟩, fun A Y => ?_, fun R Z => ?_, fun z => absurd z (by decide)⟩
    · rw [d_X3_tellYears, b_X3_tellYears_0, hc1, am_C_0, b_X3_tellYears_5, s_faultPlace X R1 Z1 A Y (n := n) (by omega) ((hK1.2.1 28 (by omega)).trans en), hK1.1 36 (by omega), am_C_v, b_X3_tellYears_9, if_neg hfp, b_X3_tellYears_14]
      rfl
    · rw [d_X6_barOfYears, b_X6_barOfYears_0, s_faultOf X _ _ A Y (n := n) (by omega) eY, am_C_v, b_X6_barOfYears_4, efp, ej, if_pos (nI_pos' (by omega)), b_X6_barOfYears_14]
      rfl
theorem op_judge (X : AMx) (b : Int32) : am_OP X 59 122 [.int b] := by
  intro R Z A Y hI
  by_cases h1 : 0 ≤ b ∧ b ≤ 1
  · obtain ⟨e1, r1, hp⟩ := hI.2.1
    obtain ⟨n, hn, en⟩ := am_rn_ix r1 (n := 61) (by omega) (by omega)
    have eY : Y 4 = nI n := e1.symm.trans en
    have efp : aw_fp (A 8) n n 0 0 = aw_fp (R 36) n n 0 0 := aw_fp_cong (fun j hj => (hp j (by omega)).symm)
    by_cases hfp : aw_fp (R 36) n n 0 0 = -6
    · obtain ⟨R', Z', A', Y', f, bad, g1, g2, g3, g4, g5, g6, g7⟩ := tell_years X hI (by omega) en hfp
      refine ⟨.int (if b = 0 then Z' 30 else Z' 31), R', Z', A', Y', ?_, ?_, am_kp_INV g2 hI⟩
      · rw [d_X5_judge, b_X5_judge_0, s_isIn, am_C_v, am_bI_t h1, b_X5_judge_6, if_neg (by decide), b_X5_judge_12, s_faultPlace X R Z A Y (n := n) (by omega) en, am_C_v, b_X5_judge_19, if_pos hfp, b_X5_judge_27, g6, am_C_v, b_X5_judge_42]
        by_cases h2 : b = 0
        · rw [if_pos h2, if_pos h2, b_X5_judge_47]
        · rw [if_neg h2, if_neg h2, b_X5_judge_57]
      · rw [d_X6_judge, b_X6_judge_0, s_in, am_C_v, am_bI_t h1, b_X6_judge_6, if_neg (by decide), b_X6_judge_12, s_faultOf X R' Z' A Y (n := n) (by omega) eY, am_C_v, b_X6_judge_16, efp, hfp, if_pos (by decide), b_X6_judge_22, g7, am_C_v, b_X6_judge_26]
        rcases g5 with ⟨k1, k2, k3⟩ | ⟨k1, k2, k3⟩
        · rw [k1, if_pos (by decide), b_X6_judge_35, k2, k3, ite_self]
        · rw [if_neg (Int32.not_lt.mpr k1), b_X6_judge_31]
          by_cases h2 : b = 0
          · rw [if_pos h2, if_pos h2, b_X6_judge_35, k2]
          · rw [if_neg h2, if_neg h2, b_X6_judge_39, k3]
    · obtain ⟨j, hj, ej⟩ := (aw_fp_or (R 36) n 0 0 (by omega)).resolve_left hfp
      refine ⟨.int (-5), R, Z, A, Y, ?_, ?_, hI⟩
      · rw [d_X5_judge, b_X5_judge_0, s_isIn, am_C_v, am_bI_t h1, b_X5_judge_6, if_neg (by decide), b_X5_judge_12, s_faultPlace X R Z A Y (n := n) (by omega) en, am_C_v, b_X5_judge_19, if_neg hfp, b_X5_judge_24]
      · rw [d_X6_judge, b_X6_judge_0, s_in, am_C_v, am_bI_t h1, b_X6_judge_6, if_neg (by decide), b_X6_judge_12, s_faultOf X R Z A Y (n := n) (by omega) eY, am_C_v, b_X6_judge_16, efp, ej, if_neg (nI_pos (by omega)), b_X6_judge_19]
  · refine ⟨.int (-2), R, Z, A, Y, ?_, ?_, hI⟩
    · simp only [d_X5_judge, b_X5_judge_0, b_X5_judge_6, b_X5_judge_9, b_X5_judge_12, b_X5_judge_19, b_X5_judge_24, b_X5_judge_27, b_X5_judge_42, b_X5_judge_47, b_X5_judge_57, s_isIn, am_C_v, am_C_0, am_ue, if_true, if_false, eq_self, am_10, ite_not, Nat.reduceEqDiff, reduceIte, am_bI_f h1]
    · simp only [d_X6_judge, b_X6_judge_0, b_X6_judge_6, b_X6_judge_9, b_X6_judge_12, b_X6_judge_16, b_X6_judge_19, b_X6_judge_22, b_X6_judge_26, b_X6_judge_31, b_X6_judge_35, b_X6_judge_39, s_in, am_C_v, am_C_0, am_ue, if_true, if_false, eq_self, am_10, ite_not, Nat.reduceEqDiff, reduceIte, am_bI_f h1]
theorem op_done (X : AMx) : am_OP X 60 124 [] := by
  intro R Z A Y hI
  obtain ⟨R', Z', A', Y', f, b, hK, hc, hm, hb⟩ := tell_bar X hI
  cases b with
  | false =>
    refine ⟨.int (-5), R', Z', A', Y', ?_, ?_, am_kp_INV hK hI⟩
    · rw [d_X5_done, b_X5_done_0, hc, am_C_v, am_bI_f (by decide), b_X5_done_15, if_pos rfl, b_X5_done_18]
    · rw [d_X6_done, b_X6_done_0, hm, am_C_v, if_neg (by decide), b_X6_done_4, if_neg (by decide), b_X6_done_7]
  | true =>
    obtain ⟨hT, h32, h29⟩ := hb rfl
    have hI' := am_kp_INV hK hI
    obtain ⟨R2, eR⟩ : ∃ R2, R2 = am_cr 0 9 R' := ⟨_, rfl⟩
    obtain ⟨Z2, eZ⟩ : ∃ Z2, Z2 = am_cz 0 7 Z' := ⟨_, rfl⟩
    obtain ⟨g, eg⟩ : ∃ g, g = am_rc 32 (A' 0) (A' 1) := ⟨_, rfl⟩
    have hV : ∀ i, am_VR (fun j => R2 j) (fun j => Z2 j) g (A' 2) (A' 3) (A' 4) (A' 5) (A' 6) (A' 7) (Y' 1) (Y' 0) (Y' 2) (Y' 3) i := by
      refine am_VR_cp (fun j i h => ?_) (fun j hj => ?_) (fun k hk => ?_) (fun _ _ => rfl) (fun _ _ => rfl) (fun _ _ => rfl) (fun _ _ => rfl) (fun _ _ => rfl) (fun _ _ => rfl) rfl rfl rfl rfl hT.1
      · show R2 j i = R' (9 + j) i
        have q := am_cr_in (d := 0) (s := 9) R' j i h
        rw [Nat.zero_add] at q
        rw [eR, q]
      · show Z2 j = Z' (7 + j)
        have q := am_cz_in (d := 0) (s := 7) Z' j hj
        rw [Nat.zero_add] at q
        rw [eZ, q]
      · rw [eg]
        unfold am_rc
        rw [if_pos hk]
    have oR : ∀ j, 9 ≤ j → R2 j = R' j := fun j hj => by rw [eR, am_cr_o R' (by omega)]
    have oZ : ∀ j, 7 ≤ j → Z2 j = Z' j := fun j hj => by rw [eZ, am_cz_o Z' (by omega)]
    refine ⟨.int (Z' 29), R2, am_up Z2 28 0, am_up A' 0 g, am_up Y' 4 0, ?_, ?_, (am_VR_mk (have q := am_V0 hV; q) (have q := am_V1 hV; q) (have q := am_V2 hV; q) (have q := am_V3 hV; q) (have q := am_V4 hV; q) (have q := am_V5 hV; q) (have q := am_V6 hV; q) (have q := am_V7 hV; q) (have q := am_V8 hV; q) (have q := am_V9 hV; q) (have q := am_V10 hV; q) (have q := am_V11 hV; q) (have q := am_V12 hV; q) (have q := am_V13 hV; q) (have q := am_V14 hV; q) (have q := am_V15 hV; q)), ⟨rfl, ⟨by show (0 : Int) ≤ (0 : Int32).toInt; decide, by show (0 : Int32).toInt ≤ 60; decide⟩, ?_⟩, ?_⟩
    · rw [d_X5_done, b_X5_done_0, hc, am_C_v, am_bI_t rfl, b_X5_done_15, if_neg (by decide), b_X5_done_21, s_copyFrom_1_24, am_C_0, b_X5_done_35, ← eR, ← eZ, oZ 29 (by omega)]
    · have loop := am_loop (E := fun k => am_E X AM_X6_done 12 [some (.ref 88), some (.int (nI k))] [] (am_WH R2 (am_up Z2 28 0) (am_up A' 0 (am_rc k (A' 0) (A' 1))) Y')) (r := some (some (.int (Y' 9)), am_WH R2 (am_up Z2 28 0) (am_up A' 0 g) (am_up Y' 4 0))) 32 (by
        try dsimp only
        rw [b_X6_done_12, if_pos (show (32 : Int32) ≤ nI 32 by decide), b_X6_done_36, eg]) (by
        intro k hk
        try dsimp only
        rw [b_X6_done_12, if_neg (show ¬ (32 : Int32) ≤ nI k from nI_ge (a := k) (b := 32) (by omega) (by omega)), b_X6_done_18, if_pos (am_in_nI hk (by omega)), am_cl (by omega), b_X6_done_29, if_pos (am_in_nI hk (by omega)), am_cl (by omega), am_up_s, am_uu, am_up_n A' _ (show (1 : Nat) ≠ 0 by omega), am_rc_s, b_X6_done_30, nI_1])
      rw [am_rc_0, am_up_self] at loop
      rw [d_X6_done, b_X6_done_0, hm, am_C_v, if_pos rfl, b_X6_done_4, if_pos (by decide), b_X6_done_10, h29]
      exact loop
    · intro i hi
      rw [oR 36 (by omega)]
      show R' 36 i = A' 8 i
      exact hI'.2.1.2.2 i hi
    · exact am_IM_congr (fun k h1 h2 => oR k (by omega)) (fun k h1 h2 => (am_up_n _ _ (by omega)).trans (oZ k (by omega))) ((am_up_n _ _ (by omega)).trans (oZ 37 (by omega))) rfl rfl hI'.2.2
theorem op_behind (X : AMx) (a b : Int32) : am_OP X 61 125 [.int a, .int b] := by
  intro R Z A Y hI
  have v1 : Z 1 = Y 0 ∧ am_rn (Z 1) 0 127 := am_V1 hI.1
  have q1 := am_hs_bt v1.2 (k := 7) (by omega) (by omega) a
  have q2 := am_mh_bt (b := Y 0) (k := 7) (by omega) (m := 6) (by decide) a
  by_cases h : ∃ j, j < 7 ∧ a = nI j ∧ bt (Z 1) j = true
  · have h1 := q1.mpr h
    have h2 := q2.mpr (by rw [← v1.1]; exact h)
    obtain ⟨i, hi, rfl, hbt⟩ := h
    by_cases h3 : 0 ≤ b ∧ b ≤ 1
    · obtain ⟨R', Z', A', Y', f, B, hK, hc, hm, hb⟩ := tell_bar X hI
      cases B with
      | false =>
        refine ⟨.int (-5), R', Z', A', Y', ?_, ?_, am_kp_INV hK hI⟩
        · rw [d_X5_behind, b_X5_behind_0, s_isThere, am_C_v, am_bI_t h1, b_X5_behind_8, if_neg (by decide), b_X5_behind_13, s_isIn, am_C_v, am_bI_t h3, b_X5_behind_19, if_neg (by decide), b_X5_behind_25, hc, am_C_v, am_bI_f (by decide), b_X5_behind_40, if_pos rfl, b_X5_behind_43]
        · rw [d_X6_behind, b_X6_behind_0, s_misThere, am_C_v, am_bI_t h2, b_X6_behind_5, if_neg (by decide), b_X6_behind_10, s_in, am_C_v, am_bI_t h3, b_X6_behind_16, if_neg (by decide), b_X6_behind_22, hm, am_C_v, if_neg (by decide), b_X6_behind_26, if_neg (by decide), b_X6_behind_29]
      | true =>
        obtain ⟨hT, h32, h29⟩ := hb rfl
        have v8 : ∀ i, i < 7 → R' 10 i = A' 1 i ∧ am_rn (R' 10 i) 0 2 := am_V8 hT.1
        have v9 : ∀ i, i < 7 → R' 11 i = A' 1 (7 + i) ∧ am_rn (R' 11 i) 0 9 := am_V9 hT.1
        refine ⟨.int (if b = 0 then R' 10 i else R' 11 i), R', Z', A', Y', ?_, ?_, am_kp_INV hK hI⟩
        · rw [d_X5_behind, b_X5_behind_0, s_isThere, am_C_v, am_bI_t h1, b_X5_behind_8, if_neg (by decide), b_X5_behind_13, s_isIn, am_C_v, am_bI_t h3, b_X5_behind_19, if_neg (by decide), b_X5_behind_25, hc, am_C_v, am_bI_t rfl, b_X5_behind_40, if_neg (by decide), b_X5_behind_46]
          by_cases hb0 : b = 0
          · rw [if_pos hb0, if_pos hb0, b_X5_behind_50, d_X1_get_27, am_rg_nI hi (by omega), am_C_v, b_X5_behind_64]
          · rw [if_neg hb0, if_neg hb0, b_X5_behind_67, d_X1_get_29, am_rg_nI hi (by omega), am_C_v, b_X5_behind_81]
        · obtain ⟨w, hw, rfl⟩ := am_ix h3 (n := 2) (by decide) (by omega)
          rw [d_X6_behind, b_X6_behind_0, s_misThere, am_C_v, am_bI_t h2, b_X6_behind_5, if_neg (by decide), b_X6_behind_10, s_in, am_C_v, am_bI_t h3, b_X6_behind_16, if_neg (by decide), b_X6_behind_22, hm, am_C_v, if_pos rfl, b_X6_behind_26, if_pos (by decide), b_X6_behind_34, show (7 : Int32) = nI 7 from rfl, pk_mul, nI_add, if_pos (am_in_nI (by omega) (by omega)), am_cl (by omega), b_X6_behind_45]
          have w2 : w = 0 ∨ w = 1 := by omega
          rcases w2 with rfl | rfl
          · rw [if_pos (show nI 0 = (0 : Int32) from rfl), (v8 i hi).1, show 7 * 0 + i = i by omega]
          · rw [if_neg (show ¬ nI 1 = (0 : Int32) by decide), (v9 i hi).1]
    · refine ⟨.int (-2), R, Z, A, Y, ?_, ?_, hI⟩
      · simp only [d_X5_behind, b_X5_behind_0, b_X5_behind_8, b_X5_behind_11, b_X5_behind_13, b_X5_behind_19, b_X5_behind_22, b_X5_behind_25, b_X5_behind_40, b_X5_behind_43, b_X5_behind_46, b_X5_behind_50, b_X5_behind_64, b_X5_behind_67, b_X5_behind_81, s_isThere, s_isIn, am_C_v, am_C_0, am_ue, if_true, if_false, eq_self, am_10, ite_not, Nat.reduceEqDiff, reduceIte, am_bI_t h1, am_bI_f h3]
      · simp only [d_X6_behind, b_X6_behind_0, b_X6_behind_5, b_X6_behind_8, b_X6_behind_10, b_X6_behind_16, b_X6_behind_19, b_X6_behind_22, b_X6_behind_26, b_X6_behind_29, b_X6_behind_34, b_X6_behind_45, s_misThere, s_in, am_C_v, am_C_0, am_ue, if_true, if_false, eq_self, am_10, ite_not, Nat.reduceEqDiff, reduceIte, am_bI_t h2, am_bI_f h3]
  · have h1 := fun z => h (q1.mp z)
    have h2 := fun z => h (by rw [v1.1]; exact q2.mp z)
    refine ⟨.int (-1), R, Z, A, Y, ?_, ?_, hI⟩
    · simp only [d_X5_behind, b_X5_behind_0, b_X5_behind_8, b_X5_behind_11, b_X5_behind_13, b_X5_behind_19, b_X5_behind_22, b_X5_behind_25, b_X5_behind_40, b_X5_behind_43, b_X5_behind_46, b_X5_behind_50, b_X5_behind_64, b_X5_behind_67, b_X5_behind_81, s_isThere, am_C_v, am_C_0, am_ue, if_true, if_false, eq_self, am_10, ite_not, Nat.reduceEqDiff, reduceIte, am_bI_f h1]
    · simp only [d_X6_behind, b_X6_behind_0, b_X6_behind_5, b_X6_behind_8, b_X6_behind_10, b_X6_behind_16, b_X6_behind_19, b_X6_behind_22, b_X6_behind_26, b_X6_behind_29, b_X6_behind_34, b_X6_behind_45, s_misThere, am_C_v, am_C_0, am_ue, if_true, if_false, eq_self, am_10, ite_not, Nat.reduceEqDiff, reduceIte, am_bI_f h2]
theorem op_wall (X : AMx) (a b : Int32) : am_OP X 62 126 [.int a, .int b] := by
  intro R Z A Y hI
  by_cases h1 : 0 ≤ a ∧ a ≤ 7
  · by_cases h3 : 0 ≤ b ∧ b ≤ 1
    · obtain ⟨i, hi, rfl⟩ := am_ix h1 (n := 8) (by decide) (by omega)
      obtain ⟨R', Z', A', Y', f, B, hK, hc, hm, hb⟩ := tell_bar X hI
      cases B with
      | false =>
        refine ⟨.int (-5), R', Z', A', Y', ?_, ?_, am_kp_INV hK hI⟩
        · rw [d_X5_wall, b_X5_wall_0, s_isIn, am_C_v, am_bI_t h1, b_X5_wall_7, if_neg (by decide), b_X5_wall_12, s_isIn, am_C_v, am_bI_t h3, b_X5_wall_18, if_neg (by decide), b_X5_wall_24, hc, am_C_v, am_bI_f (by decide), b_X5_wall_39, if_pos rfl, b_X5_wall_42]
        · rw [d_X6_wall, b_X6_wall_0, s_in, am_C_v, am_bI_t h1, b_X6_wall_7, if_neg (by decide), b_X6_wall_12, s_in, am_C_v, am_bI_t h3, b_X6_wall_18, if_neg (by decide), b_X6_wall_24, hm, am_C_v, if_neg (by decide), b_X6_wall_28, if_neg (by decide), b_X6_wall_31]
      | true =>
        obtain ⟨hT, h32, h29⟩ := hb rfl
        have v2 : Z' 9 = A' 1 30 ∧ am_rn (Z' 9) 0 255 := am_V2 hT.1
        have v11 : ∀ i, i < 8 → R' 13 i = A' 1 (14 + i) ∧ am_rn (R' 13 i) (-9) 9 := am_V11 hT.1
        have v12 : ∀ i, i < 8 → R' 14 i = A' 1 (22 + i) ∧ am_rn (R' 14 i) 0 2 := am_V12 hT.1
        by_cases hs : bt (Z' 9) i = true
        · have s1 : am_hs (Z' 9) (nI i) := (am_hs_nI (by omega)).mpr hs
          have s2 : (A' 1 30 >>> (nI i &&& 31)) &&& 1 = 1 := by rw [← v2.1]; exact (b_one i (by omega) _).mpr hs
          refine ⟨.int (if b = 0 then R' 13 i + 10 else R' 14 i), R', Z', A', Y', ?_, ?_, am_kp_INV hK hI⟩
          · rw [d_X5_wall, b_X5_wall_0, s_isIn, am_C_v, am_bI_t h1, b_X5_wall_7, if_neg (by decide), b_X5_wall_12, s_isIn, am_C_v, am_bI_t h3, b_X5_wall_18, if_neg (by decide), b_X5_wall_24, hc, am_C_v, am_bI_t rfl, b_X5_wall_39, if_neg (by decide), b_X5_wall_45, s_stands_24, am_C_v, am_bI_t s1, b_X5_wall_56, if_neg (by decide), b_X5_wall_59, d_X4_wallTold_24, b_X4_wallTold_24_0]
            by_cases hb0 : b = 0
            · rw [if_pos hb0, if_pos hb0, b_X4_wallTold_24_4, d_X1_get_33, am_rg_nI hi (by omega), am_C_v, b_X4_wallTold_24_12, am_C_v, b_X5_wall_71]
            · rw [if_neg hb0, if_neg hb0, b_X4_wallTold_24_18, d_X1_get_35, am_rg_nI hi (by omega), am_C_v, b_X4_wallTold_24_26, am_C_v, b_X5_wall_71]
          · rw [d_X6_wall, b_X6_wall_0, s_in, am_C_v, am_bI_t h1, b_X6_wall_7, if_neg (by decide), b_X6_wall_12, s_in, am_C_v, am_bI_t h3, b_X6_wall_18, if_neg (by decide), b_X6_wall_24, hm, am_C_v, if_pos rfl, b_X6_wall_28, if_pos (by decide), b_X6_wall_34, if_pos (show am_in (30 : Int32) 32 by decide), show (30 : Int32).toNatClampNeg = 30 from rfl, b_X6_wall_41, s_mhas, am_C_v, am_bI_t s2, b_X6_wall_45, if_neg (by decide), b_X6_wall_53]
            by_cases hb0 : b = 0
            · rw [if_pos hb0, if_pos hb0, b_X6_wall_57, am_a14, if_pos (am_in_nI (by omega) (by omega)), am_cl (by omega), b_X6_wall_66, (v11 i hi).1]
            · rw [if_neg hb0, if_neg hb0, b_X6_wall_72, am_a22, if_pos (am_in_nI (by omega) (by omega)), am_cl (by omega), b_X6_wall_81, (v12 i hi).1]
        · have s1 : ¬ am_hs (Z' 9) (nI i) := fun z => hs ((am_hs_nI (by omega)).mp z)
          have s2 : ¬ (A' 1 30 >>> (nI i &&& 31)) &&& 1 = 1 := fun z => hs (by rw [v2.1]; exact (b_one i (by omega) _).mp z)
          refine ⟨.int (-6), R', Z', A', Y', ?_, ?_, am_kp_INV hK hI⟩
          · rw [d_X5_wall, b_X5_wall_0, s_isIn, am_C_v, am_bI_t h1, b_X5_wall_7, if_neg (by decide), b_X5_wall_12, s_isIn, am_C_v, am_bI_t h3, b_X5_wall_18, if_neg (by decide), b_X5_wall_24, hc, am_C_v, am_bI_t rfl, b_X5_wall_39, if_neg (by decide), b_X5_wall_45, s_stands_24, am_C_v, am_bI_f s1, b_X5_wall_56, if_pos rfl, b_X5_wall_74]
          · rw [d_X6_wall, b_X6_wall_0, s_in, am_C_v, am_bI_t h1, b_X6_wall_7, if_neg (by decide), b_X6_wall_12, s_in, am_C_v, am_bI_t h3, b_X6_wall_18, if_neg (by decide), b_X6_wall_24, hm, am_C_v, if_pos rfl, b_X6_wall_28, if_pos (by decide), b_X6_wall_34, if_pos (show am_in (30 : Int32) 32 by decide), show (30 : Int32).toNatClampNeg = 30 from rfl, b_X6_wall_41, s_mhas, am_C_v, am_bI_f s2, b_X6_wall_45, if_pos rfl, b_X6_wall_48]
    · refine ⟨.int (-2), R, Z, A, Y, ?_, ?_, hI⟩
      · simp only [d_X5_wall, b_X5_wall_0, b_X5_wall_7, b_X5_wall_10, b_X5_wall_12, b_X5_wall_18, b_X5_wall_21, b_X5_wall_24, b_X5_wall_39, b_X5_wall_42, b_X5_wall_45, b_X5_wall_56, b_X5_wall_59, b_X5_wall_71, b_X5_wall_74, s_isIn, am_C_v, am_C_0, am_ue, if_true, if_false, eq_self, am_10, ite_not, Nat.reduceEqDiff, reduceIte, am_bI_t h1, am_bI_f h3]
      · simp only [d_X6_wall, b_X6_wall_0, b_X6_wall_7, b_X6_wall_10, b_X6_wall_12, b_X6_wall_18, b_X6_wall_21, b_X6_wall_24, b_X6_wall_28, b_X6_wall_31, b_X6_wall_34, b_X6_wall_41, b_X6_wall_45, b_X6_wall_48, b_X6_wall_53, b_X6_wall_57, b_X6_wall_66, b_X6_wall_72, b_X6_wall_81, s_in, am_C_v, am_C_0, am_ue, if_true, if_false, eq_self, am_10, ite_not, Nat.reduceEqDiff, reduceIte, am_bI_t h1, am_bI_f h3]
  · refine ⟨.int (-1), R, Z, A, Y, ?_, ?_, hI⟩
    · simp only [d_X5_wall, b_X5_wall_0, b_X5_wall_7, b_X5_wall_10, b_X5_wall_12, b_X5_wall_18, b_X5_wall_21, b_X5_wall_24, b_X5_wall_39, b_X5_wall_42, b_X5_wall_45, b_X5_wall_56, b_X5_wall_59, b_X5_wall_71, b_X5_wall_74, s_isIn, am_C_v, am_C_0, am_ue, if_true, if_false, eq_self, am_10, ite_not, Nat.reduceEqDiff, reduceIte, am_bI_f h1]
    · simp only [d_X6_wall, b_X6_wall_0, b_X6_wall_7, b_X6_wall_10, b_X6_wall_12, b_X6_wall_18, b_X6_wall_21, b_X6_wall_24, b_X6_wall_28, b_X6_wall_31, b_X6_wall_34, b_X6_wall_41, b_X6_wall_45, b_X6_wall_48, b_X6_wall_53, b_X6_wall_57, b_X6_wall_66, b_X6_wall_72, b_X6_wall_81, s_in, am_C_v, am_C_0, am_ue, if_true, if_false, eq_self, am_10, ite_not, Nat.reduceEqDiff, reduceIte, am_bI_f h1]
theorem op_fell (X : AMx) (b : Int32) : am_OP X 63 127 [.int b] := by
  intro R Z A Y hI
  by_cases h3 : 0 ≤ b ∧ b ≤ 3
  · obtain ⟨R', Z', A', Y', f, B, hK, hc, hm, hb⟩ := tell_bar X hI
    cases B with
    | false =>
      refine ⟨.int (-5), R', Z', A', Y', ?_, ?_, am_kp_INV hK hI⟩
      · rw [d_X5_fell, b_X5_fell_0, s_isIn, am_C_v, am_bI_t h3, b_X5_fell_6, if_neg (by decide), b_X5_fell_12, hc, am_C_v, am_bI_f (by decide), b_X5_fell_27, if_pos rfl, b_X5_fell_30]
      · rw [d_X6_fell, b_X6_fell_0, s_in, am_C_v, am_bI_t h3, b_X6_fell_6, if_neg (by decide), b_X6_fell_12, hm, am_C_v, if_neg (by decide), b_X6_fell_16, if_neg (by decide), b_X6_fell_19]
    | true =>
      obtain ⟨hT, h32, h29⟩ := hb rfl
      have v4 : Z' 11 = A' 1 31 ∧ am_rn (Z' 11) 0 99 := am_V4 hT.1
      refine ⟨.int (if b = 0 then Z' 32 else if b = 1 then Z' 33 else if b = 2 then Z' 34 else Z' 11), R', Z', A', Y', ?_, ?_, am_kp_INV hK hI⟩
      · rw [d_X5_fell, b_X5_fell_0, s_isIn, am_C_v, am_bI_t h3, b_X5_fell_6, if_neg (by decide), b_X5_fell_12, hc, am_C_v, am_bI_t rfl, b_X5_fell_27, if_neg (by decide), b_X5_fell_33]
        by_cases b0 : b = 0
        · rw [if_pos b0, if_pos b0, b_X5_fell_60]
        · rw [if_neg b0, if_neg b0]
          by_cases b1 : b = 1
          · rw [if_pos b1, if_pos b1, b_X5_fell_68]
          · rw [if_neg b1, if_neg b1]
            by_cases b2 : b = 2
            · rw [if_pos b2, if_pos b2, b_X5_fell_76]
            · rw [if_neg b2, if_neg b2, b_X5_fell_84]
      · rw [d_X6_fell, b_X6_fell_0, s_in, am_C_v, am_bI_t h3, b_X6_fell_6, if_neg (by decide), b_X6_fell_12, hm, am_C_v, if_pos rfl, b_X6_fell_16, if_pos (by decide), b_X6_fell_22]
        by_cases b0 : b = 0
        · rw [if_pos b0, if_pos b0, b_X6_fell_26, h32]
        · rw [if_neg b0, if_neg b0, b_X6_fell_33]
          by_cases b1 : b = 1
          · rw [if_pos b1, if_pos b1, b_X6_fell_38, hT.2.2.2]
          · rw [if_neg b1, if_neg b1, b_X6_fell_45]
            by_cases b2 : b = 2
            · rw [if_pos b2, if_pos b2, b_X6_fell_50, hT.2.1, hT.2.2.1]
            · rw [if_neg b2, if_neg b2, b_X6_fell_57, if_pos (show am_in (31 : Int32) 32 by decide), show (31 : Int32).toNatClampNeg = 31 from rfl, b_X6_fell_64, v4.1]
  · refine ⟨.int (-2), R, Z, A, Y, ?_, ?_, hI⟩
    · simp only [d_X5_fell, b_X5_fell_0, b_X5_fell_6, b_X5_fell_9, b_X5_fell_12, b_X5_fell_27, b_X5_fell_30, b_X5_fell_33, b_X5_fell_60, b_X5_fell_68, b_X5_fell_76, b_X5_fell_84, s_isIn, am_C_v, am_C_0, am_ue, if_true, if_false, eq_self, am_10, ite_not, Nat.reduceEqDiff, reduceIte, am_bI_f h3]
    · simp only [d_X6_fell, b_X6_fell_0, b_X6_fell_6, b_X6_fell_9, b_X6_fell_12, b_X6_fell_16, b_X6_fell_19, b_X6_fell_22, b_X6_fell_26, b_X6_fell_33, b_X6_fell_38, b_X6_fell_45, b_X6_fell_50, b_X6_fell_57, b_X6_fell_64, s_in, am_C_v, am_C_0, am_ue, if_true, if_false, eq_self, am_10, ite_not, Nat.reduceEqDiff, reduceIte, am_bI_f h3]
