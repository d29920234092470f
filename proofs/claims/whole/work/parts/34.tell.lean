/-! told. -/
theorem aw_nat {x : Int32} (h : 10 ≤ x) : ∃ a, a < 2 ^ 31 ∧ 10 ≤ a ∧ x = nI a := by
  obtain ⟨a, ha, rfl⟩ := nI_of (x := x) (fun z => by
    rw [Int32.lt_iff_toInt_lt, Int32.toInt_zero] at z
    rw [Int32.le_iff_toInt_le] at h
    have e : (10 : Int32).toInt = 10 := rfl
    omega)
  exact ⟨a, ha, (nI_leI (a := 10) (by omega) ha).mp h, rfl⟩
theorem op_told (X : AMx) (x : Int32) : am_OP X 80 153 [.int x] := by
  intro R Z A Y hI
  have v0 : Z 0 = Y 1 ∧ am_rn (Z 0) 0 18 := am_V0 hI.1
  have v1 : Z 1 = Y 0 ∧ am_rn (Z 1) 0 127 := am_V1 hI.1
  have v2 : Z 2 = A 0 30 ∧ am_rn (Z 2) 0 255 := am_V2 hI.1
  have v3 : Z 3 = Y 2 ∧ am_rn (Z 3) 0 4095 := am_V3 hI.1
  have v4 : Z 4 = A 0 31 ∧ am_rn (Z 4) 0 99 := am_V4 hI.1
  have v5 : Z 5 = Y 3 ∧ am_rn (Z 5) 0 8 := am_V5 hI.1
  have v7 : ∀ i, i < 3 → R 0 i = A 2 i ∧ am_rn (R 0 i) (-9) 9 := am_V7 hI.1
  have v8 : ∀ i, i < 7 → R 1 i = A 0 i ∧ am_rn (R 1 i) 0 2 := am_V8 hI.1
  have v9 : ∀ i, i < 7 → R 2 i = A 0 (7 + i) ∧ am_rn (R 2 i) 0 9 := am_V9 hI.1
  have v11 : ∀ i, i < 8 → R 4 i = A 0 (14 + i) ∧ am_rn (R 4 i) (-9) 9 := am_V11 hI.1
  have v12 : ∀ i, i < 8 → R 5 i = A 0 (22 + i) ∧ am_rn (R 5 i) 0 2 := am_V12 hI.1
  have v13 : ∀ i, i < 12 → R 6 i = A 4 i ∧ am_rn (R 6 i) 0 9 := am_V13 hI.1
  have v14 : ∀ i, i < 12 → R 7 i = A 5 i ∧ am_rn (R 7 i) 0 9 := am_V14 hI.1
  have v15 : ∀ i, i < 12 → R 8 i = A 6 i ∧ am_rn (R 8 i) (-9) 9 := am_V15 hI.1
  by_cases c10 : 10 ≤ x
  · obtain ⟨a, ha, ha10, rfl⟩ := aw_nat c10
    by_cases c300 : 300 ≤ a
    · -- a stair
      have l10 : (10 : Int32) ≤ nI a := c10
      have l20 : (20 : Int32) ≤ nI a := nI_le (a := 20) (by omega) ha
      have l200 : (200 : Int32) ≤ nI a := nI_le (a := 200) (by omega) ha
      have l300 : (300 : Int32) ≤ nI a := nI_le (a := 300) (by omega) ha
      have m300 : ¬ nI a < (300 : Int32) := Int32.not_lt.mpr l300
      have es : nI a - 300 = nI (a - 300) := pk_sub (b := 300) c300
      have q1 := am_hs_bt v3.2 (k := 12) (by omega) (by omega) (nI (a - 300))
      have q2 := am_mh_bt (b := Y 2) (k := 12) (by omega) (m := 11) (by decide) (nI (a - 300))
      by_cases h : ∃ j, j < 12 ∧ nI (a - 300) = nI j ∧ bt (Z 3) j = true
      · have h1 := q1.mpr h
        have h2 := q2.mpr (by rw [← v3.1]; exact h)
        obtain ⟨i, hi, ei, hb⟩ := h
        rw [ei] at h1 h2 es
        refine ⟨.int (1000 * R 6 i + 100 * R 7 i + R 8 i + 10), R, Z, A, Y, ?_, ?_, hI⟩
        · rw [d_X5_told, b_X5_told_0, if_pos l10, b_X5_told_12, if_pos l20, b_X5_told_49, if_pos l200, b_X5_told_71, if_pos l300, b_X5_told_95, es, d_X5_toldOfStair, b_X5_toldOfStair_0, s_has, am_C_v, am_bI_t h1, b_X5_toldOfStair_11, if_neg (by decide), b_X5_toldOfStair_17, d_X1_get_14, am_rg_nI hi (by omega), am_C_v, b_X5_toldOfStair_31, d_X1_get_16, am_rg_nI hi (by omega), am_C_v, b_X5_toldOfStair_45, d_X1_get_18, am_rg_nI hi (by omega), am_C_v, b_X5_toldOfStair_58, am_C_v, b_X5_told_104]
        · rw [d_X6_told, b_X6_told_0, if_neg m300, b_X6_told_7, es, s_in, am_C_v, am_bI_t h2.1, b_X6_told_20, if_neg (by decide), b_X6_told_23, s_mhas, am_C_v, am_bI_t h2.2, b_X6_told_31, if_neg (by decide), b_X6_told_34, if_pos (am_in_nI hi (by omega)), am_cl (by omega), b_X6_told_43, if_pos (am_in_nI hi (by omega)), am_cl (by omega), b_X6_told_52, if_pos (am_in_nI hi (by omega)), am_cl (by omega), b_X6_told_60, (v13 i hi).1, (v14 i hi).1, (v15 i hi).1]
      · have h1 := fun z => h (q1.mp z)
        have h2 := fun z => h (by rw [v3.1]; exact q2.mp z)
        refine ⟨.int (-2), R, Z, A, Y, ?_, ?_, hI⟩
        · rw [d_X5_told, b_X5_told_0, if_pos l10, b_X5_told_12, if_pos l20, b_X5_told_49, if_pos l200, b_X5_told_71, if_pos l300, b_X5_told_95, es, d_X5_toldOfStair, b_X5_toldOfStair_0, s_has, am_C_v, am_bI_f h1, b_X5_toldOfStair_11, if_pos rfl, b_X5_toldOfStair_14, am_C_v, b_X5_told_104]
        · rw [d_X6_told, b_X6_told_0, if_neg m300, b_X6_told_7, es, s_in, am_C_v, b_X6_told_20]
          by_cases g : 0 ≤ nI (a - 300) ∧ nI (a - 300) ≤ 11
          · rw [am_bI_t g, if_neg (by decide), b_X6_told_23, s_mhas, am_C_v, am_bI_f (fun z => h2 ⟨g, z⟩), b_X6_told_31, if_pos rfl, b_X6_told_67]
          · rw [am_bI_f g, if_pos rfl, b_X6_told_67]
    · have m300 : nI a < (300 : Int32) := nI_lt (b := 300) (by omega) (by omega)
      have k300 : ¬ (300 : Int32) ≤ nI a := Int32.not_le.mpr m300
      by_cases c200 : 200 ≤ a
      · -- a wall
        have l20 : (20 : Int32) ≤ nI a := nI_le (a := 20) (by omega) ha
        have l200 : (200 : Int32) ≤ nI a := nI_le (a := 200) (by omega) ha
        have m200 : ¬ nI a < (200 : Int32) := Int32.not_lt.mpr l200
        have e1 : (nI a - 200) / 10 = nI (a / 10 - 20) := by
          rw [show nI a - 200 = nI (a - 200) from pk_sub (b := 200) c200, show (10 : Int32) = nI 10 from rfl, pk_div (by omega) (by omega) (by omega), show (a - 200) / 10 = a / 10 - 20 by omega]
        have e2 : nI a / 10 - 20 = nI (a / 10 - 20) := by
          rw [show nI a / 10 = nI (a / 10) from pk_div (d := 10) (by omega) (by omega) (by omega), show nI (a / 10) - 20 = nI (a / 10 - 20) from pk_sub (b := 20) (by omega)]
        have e3 : nI a - nI a / 10 * 10 = nI (a % 10) := pk_rem (d := 10) (by omega) (by omega) (by omega)
        obtain ⟨w, ew⟩ : ∃ w, w = a / 10 - 20 := ⟨_, rfl⟩
        obtain ⟨t, et⟩ : ∃ t, t = a % 10 := ⟨_, rfl⟩
        rw [← ew] at e1 e2
        rw [← et] at e3
        have hw : w < 10 := by omega
        have ht : t < 10 := by omega
        have q1 := am_hs_bt v2.2 (k := 8) (by omega) (by omega) (nI w)
        have q2 := am_mh_bt (b := A 0 30) (k := 8) (by omega) (m := 7) (by decide) (nI w)
        have cpre : am_D X 80 [.ref 0, .int (nI a)] (am_WH R Z A Y) = am_C X AM_X5_told 94 [some (.ref 0), some (.int (nI a))] [] (am_D X 95 [.ref 0, .int (nI w), .int (nI t)] (am_WH R Z A Y)) := by
          rw [d_X5_told, b_X5_told_0, if_pos c10, b_X5_told_12, if_pos l20, b_X5_told_49, if_pos l200, b_X5_told_71, if_neg k300, b_X5_told_78, e1, e3]
        have mpre : am_D X 153 [.ref 88, .int (nI a)] (am_WH R Z A Y) = am_E X AM_X6_told 92 [some (.ref 88), some (.int (nI a)), some (.int (nI w)), none] [.int (am_bI (0 ≤ nI w ∧ nI w ≤ 7))] (am_WH R Z A Y) := by
          rw [d_X6_told, b_X6_told_0, if_pos m300, b_X6_told_70, if_neg m200, b_X6_told_77, e2, s_in, am_C_v]
        have m121 : ∀ l2, am_E X AM_X6_told 121 [some (.ref 88), some (.int (nI a)), some (.int l2), none] [] (am_WH R Z A Y) = some (some (.int (-2)), am_WH R Z A Y) := fun l2 => by
          rw [b_X6_told_121, if_pos rfl, b_X6_told_127]
        by_cases h : ∃ j, j < 8 ∧ nI w = nI j ∧ bt (Z 2) j = true
        · have h1 := q1.mpr h
          have h2 := q2.mpr (by rw [← v2.1]; exact h)
          obtain ⟨j, hj, ej, hb⟩ := h
          obtain rfl : w = j := (nI_eq (by omega) (by omega)).mp ej
          have hw8 : w < 8 := hj
          by_cases h3 : 0 ≤ nI t ∧ nI t ≤ 1
          · have t2 : t < 2 := by
              have := (nI_leI (a := t) (b := 1) (by omega) (by omega)).mp h3.2
              omega
            refine ⟨.int (if t = 0 then R 4 w + 10 else R 5 w), R, Z, A, Y, ?_, ?_, hI⟩
            · rw [cpre, d_X5_toldOfWall, b_X5_toldOfWall_0, s_stands_1, am_C_v, am_bI_t h1, b_X5_toldOfWall_8, if_neg (by decide), b_X5_toldOfWall_11, s_isIn, am_C_v, am_bI_t h3, b_X5_toldOfWall_17, if_neg (by decide), b_X5_toldOfWall_23, d_X4_wallTold_1, b_X4_wallTold_1_0]
              by_cases g : t = 0
              · rw [if_pos g, g, if_pos (show nI 0 = (0 : Int32) from rfl), b_X4_wallTold_1_4, d_X1_get_10, am_rg_nI hw8 (by omega), am_C_v, b_X4_wallTold_1_12, am_C_v, b_X5_toldOfWall_32, am_C_v, b_X5_told_94]
              · rw [if_neg g, if_neg (nI_ne0 (by omega) (by omega)), b_X4_wallTold_1_18, d_X1_get_12, am_rg_nI hw8 (by omega), am_C_v, b_X4_wallTold_1_26, am_C_v, b_X5_toldOfWall_32, am_C_v, b_X5_told_94]
            · rw [mpre, am_bI_t h2.1, b_X6_told_92, if_neg (by decide), b_X6_told_95, if_pos (show am_in (30 : Int32) 32 by decide), show (30 : Int32).toNatClampNeg = 30 from rfl, b_X6_told_102, s_mhas, am_C_v, am_bI_t h2.2, b_X6_told_106, if_neg (by decide), b_X6_told_109, e3, if_neg (show ¬ (2 : Int32) ≤ nI t from nI_ge (b := 2) t2 (by omega)), b_X6_told_117, if_neg (by decide), b_X6_told_132, e3]
              by_cases g : t = 0
              · rw [if_pos g, g, if_pos (show nI 0 = (0 : Int32) from rfl), b_X6_told_139, am_a14, if_pos (am_in_nI (by omega) (by omega)), am_cl (by omega), b_X6_told_148, (v11 w hw8).1]
              · rw [if_neg g, if_neg (nI_ne0 (by omega) (by omega)), b_X6_told_154, am_a22, if_pos (am_in_nI (by omega) (by omega)), am_cl (by omega), b_X6_told_163, (v12 w hw8).1]
          · have t2 : 2 ≤ t := by
              false_or_by_contra
              exact h3 ⟨nI_pos' (by omega), (nI_leI (a := t) (b := 1) (by omega) (by omega)).mpr (by omega)⟩
            refine ⟨.int (-2), R, Z, A, Y, ?_, ?_, hI⟩
            · rw [cpre, d_X5_toldOfWall, b_X5_toldOfWall_0, s_stands_1, am_C_v, am_bI_t h1, b_X5_toldOfWall_8, if_neg (by decide), b_X5_toldOfWall_11, s_isIn, am_C_v, am_bI_f h3, b_X5_toldOfWall_17, if_pos rfl, b_X5_toldOfWall_20, am_C_v, b_X5_told_94]
            · rw [mpre, am_bI_t h2.1, b_X6_told_92, if_neg (by decide), b_X6_told_95, if_pos (show am_in (30 : Int32) 32 by decide), show (30 : Int32).toNatClampNeg = 30 from rfl, b_X6_told_102, s_mhas, am_C_v, am_bI_t h2.2, b_X6_told_106, if_neg (by decide), b_X6_told_109, e3, if_pos (show (2 : Int32) ≤ nI t from nI_le (a := 2) t2 (by omega)), m121]
        · have h1 := fun z => h (q1.mp z)
          have h2 := fun z => h (by rw [v2.1]; exact q2.mp z)
          refine ⟨.int (-2), R, Z, A, Y, ?_, ?_, hI⟩
          · rw [cpre, d_X5_toldOfWall, b_X5_toldOfWall_0, s_stands_1, am_C_v, am_bI_f h1, b_X5_toldOfWall_8, if_pos rfl, b_X5_toldOfWall_20, am_C_v, b_X5_told_94]
          · rw [mpre, b_X6_told_92]
            by_cases g : 0 ≤ nI w ∧ nI w ≤ 7
            · rw [am_bI_t g, if_neg (by decide), b_X6_told_95, if_pos (show am_in (30 : Int32) 32 by decide), show (30 : Int32).toNatClampNeg = 30 from rfl, b_X6_told_102, s_mhas, am_C_v, am_bI_f (fun z => h2 ⟨g, z⟩), b_X6_told_106, if_pos rfl, m121]
            · rw [am_bI_f g, if_pos rfl, m121]
      · have m200 : nI a < (200 : Int32) := nI_lt (b := 200) (by omega) (by omega)
        have k200 : ¬ (200 : Int32) ≤ nI a := Int32.not_le.mpr m200
        by_cases c20 : 20 ≤ a
        · -- a one
          have l20 : (20 : Int32) ≤ nI a := nI_le (a := 20) (by omega) ha
          have m20 : ¬ nI a < (20 : Int32) := Int32.not_lt.mpr l20
          have e2 : nI a / 20 - 1 = nI (a / 20 - 1) := by
            rw [show nI a / 20 = nI (a / 20) from pk_div (d := 20) (by omega) (by omega) (by omega), show nI (a / 20) - 1 = nI (a / 20 - 1) from pk_sub (b := 1) (by omega)]
          have e3 : nI a - nI a / 20 * 20 = nI (a % 20) := pk_rem (d := 20) (by omega) (by omega) (by omega)
          obtain ⟨w, ew⟩ : ∃ w, w = a / 20 - 1 := ⟨_, rfl⟩
          obtain ⟨t, et⟩ : ∃ t, t = a % 20 := ⟨_, rfl⟩
          rw [← ew] at e2
          rw [← et] at e3
          have hw : w < 10 := by omega
          have ht : t < 20 := by omega
          have q1 := am_hs_bt v1.2 (k := 7) (by omega) (by omega) (nI w)
          have q2 := am_mh_bt (b := Y 0) (k := 7) (by omega) (m := 6) (by decide) (nI w)
          have cpre : am_D X 80 [.ref 0, .int (nI a)] (am_WH R Z A Y) = am_C X AM_X5_told 70 [some (.ref 0), some (.int (nI a))] [] (am_D X 94 [.ref 0, .int (nI w), .int (nI t)] (am_WH R Z A Y)) := by
            rw [d_X5_told, b_X5_told_0, if_pos c10, b_X5_told_12, if_pos l20, b_X5_told_49, if_neg k200, b_X5_told_56, e2, e3]
          have mpre : am_D X 153 [.ref 88, .int (nI a)] (am_WH R Z A Y) = am_C X AM_X6_told 182 [some (.ref 88), some (.int (nI a)), some (.int (nI w)), none] [] (am_D X 101 [.ref 88, .int (nI w)] (am_WH R Z A Y)) := by
            rw [d_X6_told, b_X6_told_0, if_pos m300, b_X6_told_70, if_pos m200, b_X6_told_164, if_neg m20, b_X6_told_170, e2]
          by_cases h : ∃ j, j < 7 ∧ nI w = nI j ∧ bt (Z 1) j = true
          · have h1 := q1.mpr h
            have h2 := q2.mpr (by rw [← v1.1]; exact h)
            obtain ⟨j, hj, ej, hb⟩ := h
            obtain rfl : w = j := (nI_eq (by omega) (by omega)).mp ej
            have hw7 : w < 7 := hj
            by_cases h3 : 0 ≤ nI t ∧ nI t ≤ 1
            · have t2 : t < 2 := by
                have := (nI_leI (a := t) (b := 1) (by omega) (by omega)).mp h3.2
                omega
              refine ⟨.int (if t = 0 then R 1 w else R 2 w), R, Z, A, Y, ?_, ?_, hI⟩
              · rw [cpre, d_X5_toldOfOne, b_X5_toldOfOne_0, s_isThere, am_C_v, am_bI_t h1, b_X5_toldOfOne_8, if_neg (by decide), b_X5_toldOfOne_11, s_isIn, am_C_v, am_bI_t h3, b_X5_toldOfOne_17, if_neg (by decide), b_X5_toldOfOne_23]
                by_cases g : t = 0
                · rw [if_pos g, g, if_pos (show nI 0 = (0 : Int32) from rfl), b_X5_toldOfOne_27, d_X1_get_4, am_rg_nI hw7 (by omega), am_C_v, b_X5_toldOfOne_38, am_C_v, b_X5_told_70]
                · rw [if_neg g, if_neg (nI_ne0 (by omega) (by omega)), b_X5_toldOfOne_41, d_X1_get_6, am_rg_nI hw7 (by omega), am_C_v, b_X5_toldOfOne_52, am_C_v, b_X5_told_70]
              · have t01 : t = 0 ∨ t = 1 := by omega
                rw [mpre, s_misThere, am_C_v, am_bI_t h2, b_X6_told_182, if_neg (by decide), b_X6_told_185, e3, if_neg (show ¬ (2 : Int32) ≤ nI t from nI_ge (b := 2) t2 (by omega)), b_X6_told_193, e3, show (7 : Int32) = nI 7 from rfl, pk_mul, nI_add, if_pos (am_in_nI (by omega) (by omega)), am_cl (by omega), b_X6_told_207]
                rcases t01 with g | g
                · rw [if_pos g, g, (v8 w hw7).1, show 7 * 0 + w = w by omega]
                · rw [if_neg (by omega), g, (v9 w hw7).1]
            · have t2 : 2 ≤ t := by
                false_or_by_contra
                exact h3 ⟨nI_pos' (by omega), (nI_leI (a := t) (b := 1) (by omega) (by omega)).mpr (by omega)⟩
              refine ⟨.int (-2), R, Z, A, Y, ?_, ?_, hI⟩
              · rw [cpre, d_X5_toldOfOne, b_X5_toldOfOne_0, s_isThere, am_C_v, am_bI_t h1, b_X5_toldOfOne_8, if_neg (by decide), b_X5_toldOfOne_11, s_isIn, am_C_v, am_bI_f h3, b_X5_toldOfOne_17, if_pos rfl, b_X5_toldOfOne_20, am_C_v, b_X5_told_70]
              · rw [mpre, s_misThere, am_C_v, am_bI_t h2, b_X6_told_182, if_neg (by decide), b_X6_told_185, e3, if_pos (show (2 : Int32) ≤ nI t from nI_le (a := 2) t2 (by omega)), b_X6_told_210]
          · have h1 := fun z => h (q1.mp z)
            have h2 := fun z => h (by rw [v1.1]; exact q2.mp z)
            refine ⟨.int (-2), R, Z, A, Y, ?_, ?_, hI⟩
            · rw [cpre, d_X5_toldOfOne, b_X5_toldOfOne_0, s_isThere, am_C_v, am_bI_f h1, b_X5_toldOfOne_8, if_pos rfl, b_X5_toldOfOne_20, am_C_v, b_X5_told_70]
            · rw [mpre, s_misThere, am_C_v, am_bI_f h2, b_X6_told_182, if_pos rfl, b_X6_told_210]
        · -- a creed
          have m20 : nI a < (20 : Int32) := nI_lt (b := 20) (by omega) (by omega)
          have k20 : ¬ (20 : Int32) ≤ nI a := Int32.not_le.mpr m20
          have m10 : ¬ nI a < (10 : Int32) := Int32.not_lt.mpr c10
          have es : nI a - 10 = nI (a - 10) := pk_sub (b := 10) ha10
          by_cases c13 : a < 13
          · refine ⟨.int (R 0 (a - 10) + 10), R, Z, A, Y, ?_, ?_, hI⟩
            · rw [d_X5_told, b_X5_told_0, if_pos c10, b_X5_told_12, if_neg k20, b_X5_told_18, es, if_neg (show ¬ (3 : Int32) ≤ nI (a - 10) from nI_ge (b := 3) (by omega) (by omega)), b_X5_told_26, es, d_X1_get_2, am_rg_nI (by omega) (by omega), am_C_v, b_X5_told_40]
            · rw [d_X6_told, b_X6_told_0, if_pos m300, b_X6_told_70, if_pos m200, b_X6_told_164, if_pos m20, b_X6_told_213, if_neg m10, b_X6_told_219, if_neg (show ¬ (13 : Int32) ≤ nI a from nI_ge (b := 13) (by omega) (by omega)), b_X6_told_225, es, if_pos (am_in_nI (by omega) (by omega)), am_cl (by omega), b_X6_told_234, (v7 (a - 10) (by omega)).1]
          · refine ⟨.int (-2), R, Z, A, Y, ?_, ?_, hI⟩
            · rw [d_X5_told, b_X5_told_0, if_pos c10, b_X5_told_12, if_neg k20, b_X5_told_18, es, if_pos (show (3 : Int32) ≤ nI (a - 10) from nI_le (a := 3) (by omega) (by omega)), b_X5_told_46]
            · rw [d_X6_told, b_X6_told_0, if_pos m300, b_X6_told_70, if_pos m200, b_X6_told_164, if_pos m20, b_X6_told_213, if_neg m10, b_X6_told_219, if_pos (show (13 : Int32) ≤ nI a from nI_le (a := 13) (by omega) (by omega)), b_X6_told_240]
  · -- of all
    have e10 : (10 : Int32).toInt = 10 := rfl
    have x10 := Int32.lt_iff_toInt_lt.mp (Int32.not_le.mp c10)
    have l10 : x < 10 := Int32.not_le.mp c10
    have l20 : x < 20 := Int32.lt_iff_toInt_lt.mpr (by show x.toInt < 20; omega)
    have l200 : x < 200 := Int32.lt_iff_toInt_lt.mpr (by show x.toInt < 200; omega)
    have l300 : x < 300 := Int32.lt_iff_toInt_lt.mpr (by show x.toInt < 300; omega)
    have cpre : am_D X 80 [.ref 0, .int x] (am_WH R Z A Y) = am_C X AM_X5_told 11 [some (.ref 0), some (.int x)] [] (am_E X AM_X5_toldOfAll 0 [some (.ref 0), some (.int x)] [] (am_WH R Z A Y)) := by
      rw [d_X5_told, b_X5_told_0, if_neg c10, b_X5_told_6, d_X5_toldOfAll]
    have mpre : am_D X 153 [.ref 88, .int x] (am_WH R Z A Y) = am_E X AM_X6_told 243 [some (.ref 88), some (.int x), none, none] [] (am_WH R Z A Y) := by
      rw [d_X6_told, b_X6_told_0, if_pos l300, b_X6_told_70, if_pos l200, b_X6_told_164, if_pos l20, b_X6_told_213, if_pos l10]
    obtain ⟨e28, _, _⟩ := hI.2.1
    refine ⟨.int (if x = 0 then Z 28 else if x = 1 then Z 1 else if x = 2 then Z 2 else if x = 3 then Z 0 else if x = 4 then Z 4 else if x = 5 then Z 5 else if x = 6 then Z 3 else -2), R, Z, A, Y, ?_, ?_, hI⟩
    · rw [cpre, b_X5_toldOfAll_0]
      by_cases g0 : x = 0
      · rw [if_pos g0, if_pos g0, b_X5_toldOfAll_44, am_C_v, b_X5_told_11]
      · rw [if_neg g0, if_neg g0]
        by_cases g1 : x = 1
        · rw [if_pos g1, if_pos g1, b_X5_toldOfAll_52, am_C_v, b_X5_told_11]
        · rw [if_neg g1, if_neg g1]
          by_cases g2 : x = 2
          · rw [if_pos g2, if_pos g2, b_X5_toldOfAll_60, am_C_v, b_X5_told_11]
          · rw [if_neg g2, if_neg g2]
            by_cases g3 : x = 3
            · rw [if_pos g3, if_pos g3, b_X5_toldOfAll_68, am_C_v, b_X5_told_11]
            · rw [if_neg g3, if_neg g3]
              by_cases g4 : x = 4
              · rw [if_pos g4, if_pos g4, b_X5_toldOfAll_76, am_C_v, b_X5_told_11]
              · rw [if_neg g4, if_neg g4]
                by_cases g5 : x = 5
                · rw [if_pos g5, if_pos g5, b_X5_toldOfAll_84, am_C_v, b_X5_told_11]
                · rw [if_neg g5, if_neg g5]
                  by_cases g6 : x = 6
                  · rw [if_pos g6, if_pos g6, b_X5_toldOfAll_92, am_C_v, b_X5_told_11]
                  · rw [if_neg g6, if_neg g6, b_X5_toldOfAll_100, am_C_v, b_X5_told_11]
    · rw [mpre, b_X6_told_243]
      by_cases g0 : x = 0
      · rw [if_pos g0, if_pos g0, b_X6_told_284, e28]
      · rw [if_neg g0, if_neg g0]
        by_cases g1 : x = 1
        · rw [if_pos g1, if_pos g1, b_X6_told_289, v1.1]
        · rw [if_neg g1, if_neg g1]
          by_cases g2 : x = 2
          · rw [if_pos g2, if_pos g2, b_X6_told_294, if_pos (show am_in (30 : Int32) 32 by decide), show (30 : Int32).toNatClampNeg = 30 from rfl, b_X6_told_301, v2.1]
          · rw [if_neg g2, if_neg g2]
            by_cases g3 : x = 3
            · rw [if_pos g3, if_pos g3, b_X6_told_302, v0.1]
            · rw [if_neg g3, if_neg g3]
              by_cases g4 : x = 4
              · rw [if_pos g4, if_pos g4, b_X6_told_307, if_pos (show am_in (31 : Int32) 32 by decide), show (31 : Int32).toNatClampNeg = 31 from rfl, b_X6_told_314, v4.1]
              · rw [if_neg g4, if_neg g4]
                by_cases g5 : x = 5
                · rw [if_pos g5, if_pos g5, b_X6_told_315, v5.1]
                · rw [if_neg g5, if_neg g5, b_X6_told_320]
                  by_cases g6 : x = 6
                  · rw [if_pos g6, if_pos g6, b_X6_told_326, v3.1]
                  · rw [if_neg g6, if_neg g6, b_X6_told_333]
