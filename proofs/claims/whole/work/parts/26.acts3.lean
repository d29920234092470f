/-! acts: climbers. -/
/-- an act by which somebody falls -/
theorem am_AC_fall (X : AMx) {R R' : Nat → Nat → Int32} {Z : Nat → Int32} {A A' : Nat → Nat → Int32} {Y : Nat → Int32} {f : Nat} (hT : am_TL R Z A Y f) (hf : f < 1000) (hO : am_OV R' Z A' Y) {a t : Int32} {Q : Int32 → (Nat → Nat → Int32) → (Nat → Int32) → Prop} (hR : ∀ j, j < 9 ∨ 18 ≤ j → R' j = R j) (hA : ∀ j, j ≠ 1 → A' j = A j) (h1 : ∀ (A : Nat → Nat → Int32) (Y : Nat → Int32), am_D X 44 [.ref 24, .int 1, .int a, .int t] (am_WH R Z A Y) = some (some (.int 0), am_WH R Z A Y)) (h2 : ∀ (A : Nat → Nat → Int32) (Y : Nat → Int32), am_D X 45 [.ref 24, .int 1, .int a, .int t] (am_WH R Z A Y) = some (some (.int 1), am_WH R' Z A Y)) (hQ0 : Y 5 = 0 → Q 0 A' (am_up (am_up Y 7 a) 5 (Y 5 + 1))) (hQ1 : ¬ Y 5 = 0 → Q 0 A' (am_up (am_up Y 7 (Y 7)) 5 (Y 5 + 1))) : am_AC X R Z A Y f 1 a t Q := by
  have ht := s_tellAct_1 X h1 h2
  obtain ⟨F, eF⟩ : ∃ F, F = Z 34 + 1 := ⟨_, rfl⟩
  obtain ⟨N, eN⟩ : ∃ N, N = Z 29 + 1 := ⟨_, rfl⟩
  have eF2 : F = nI (f + 1) := by rw [eF, hT.2.1, nI_1]
  have eYF : Y 5 + 1 = F := by rw [hT.2.2.1, nI_1, eF2]
  rw [eYF] at hQ0 hQ1
  rw [← eF, ← eN] at ht
  by_cases g : f = 0
  · have z0 : Z 34 = 0 := by rw [hT.2.1, g]; rfl
    have y0 : Y 5 = 0 := by rw [hT.2.2.1, g]; rfl
    rw [if_pos z0] at ht
    refine ⟨0, R', am_up (am_up (am_up (am_up Z 32 (Z 29)) 33 a) 34 F) 29 N, A', am_up (am_up Y 7 a) 5 F, f + 1, ⟨(am_VR_mk (have q := am_V0 hO; q) (have q := am_V1 hO; q) (have q := am_V2 hO; q) (have q := am_V3 hO; q) (have q := am_V4 hO; q) (have q := am_V5 hO; q) (have q := am_V6 hO; q) (have q := am_V7 hO; q) (have q := am_V8 hO; q) (have q := am_V9 hO; q) (have q := am_V10 hO; q) (have q := am_V11 hO; q) (have q := am_V12 hO; q) (have q := am_V13 hO; q) (have q := am_V14 hO; q) (have q := am_V15 hO; q)), eF2, eF2, rfl⟩, ⟨hR, fun j hj => by rw [am_up_n _ _ (by omega), am_up_n _ _ (by omega), am_up_n _ _ (by omega), am_up_n _ _ (by omega)], hA, fun j hj => by rw [am_up_n _ _ (by omega), am_up_n _ _ (by omega)]⟩, ⟨rfl, rfl, rfl, rfl, rfl⟩, Or.inr ⟨rfl, eN, Or.inr ⟨rfl, ?_⟩⟩, ht, hQ0 y0⟩
    rw [if_pos g]
    rfl
  · have z0 : ¬ Z 34 = 0 := by rw [hT.2.1]; exact nI_ne0 (by omega) (by omega)
    have y0 : ¬ Y 5 = 0 := by rw [hT.2.2.1]; exact nI_ne0 (by omega) (by omega)
    rw [if_neg z0] at ht
    refine ⟨0, R', am_up (am_up Z 34 F) 29 N, A', am_up (am_up Y 7 (Y 7)) 5 F, f + 1, ⟨(am_VR_mk (have q := am_V0 hO; q) (have q := am_V1 hO; q) (have q := am_V2 hO; q) (have q := am_V3 hO; q) (have q := am_V4 hO; q) (have q := am_V5 hO; q) (have q := am_V6 hO; q) (have q := am_V7 hO; q) (have q := am_V8 hO; q) (have q := am_V9 hO; q) (have q := am_V10 hO; q) (have q := am_V11 hO; q) (have q := am_V12 hO; q) (have q := am_V13 hO; q) (have q := am_V14 hO; q) (have q := am_V15 hO; q)), eF2, eF2, hT.2.2.2⟩, ⟨hR, fun j hj => by rw [am_up_n _ _ (by omega), am_up_n _ _ (by omega)], hA, fun j hj => by rw [am_up_n _ _ (by omega), am_up_n _ _ (by omega)]⟩, ⟨rfl, rfl, rfl, rfl, rfl⟩, Or.inr ⟨rfl, eN, Or.inr ⟨rfl, ?_⟩⟩, ht, hQ1 y0⟩
    rw [if_neg g]
    rfl
theorem act_climb (X : AMx) {R : Nat → Nat → Int32} {Z : Nat → Int32} {A : Nat → Nat → Int32} {Y : Nat → Int32} {f : Nat} (h : am_TL R Z A Y f) (hf : f < 1000) (a : Int32) {w : Nat} (hw : w < 8) : am_AC X R Z A Y f 1 a (nI w) (fun r A' Y' => ∀ (R : Nat → Nat → Int32) (Z : Nat → Int32), am_D X 117 [.ref 88, .int a, .int (nI w)] (am_WH R Z A Y) = some (some (.int r), am_WH R Z A' Y')) := by
  have v0 : Z 7 = Y 1 ∧ am_rn (Z 7) 0 18 := am_V0 h.1
  have v2 : Z 9 = A 1 30 ∧ am_rn (Z 9) 0 255 := am_V2 h.1
  have v4 : Z 11 = A 1 31 ∧ am_rn (Z 11) 0 99 := am_V4 h.1
  have v7 : ∀ i, i < 3 → R 9 i = A 2 i ∧ am_rn (R 9 i) (-9) 9 := am_V7 h.1
  have v8 : ∀ i, i < 7 → R 10 i = A 1 i ∧ am_rn (R 10 i) 0 2 := am_V8 h.1
  have v9 : ∀ i, i < 7 → R 11 i = A 1 (7 + i) ∧ am_rn (R 11 i) 0 9 := am_V9 h.1
  have v11 : ∀ i, i < 8 → R 13 i = A 1 (14 + i) ∧ am_rn (R 13 i) (-9) 9 := am_V11 h.1
  have v12 : ∀ i, i < 8 → R 14 i = A 1 (22 + i) ∧ am_rn (R 14 i) 0 2 := am_V12 h.1
  obtain ⟨q1, q2⟩ := am_there2 h.1 a
  by_cases ht : ∃ j, j < 7 ∧ a = nI j ∧ bt (Z 8) j = true
  · have h1 := q1.mpr ht
    have h2 := q2.mpr ht
    obtain ⟨k, hk, rfl, hb⟩ := ht
    by_cases hs : bt (Z 9) w = true
    · have s1 : am_hs (Z 9) (nI w) := (am_hs_nI (by omega)).mpr hs
      have s2 : (A 1 30 >>> (nI w &&& 31)) &&& 1 = 1 := by rw [← v2.1]; exact (b_one w (by omega) _).mpr hs
      have hr : ∀ (A : Nat → Nat → Int32) (Y : Nat → Int32), am_D X 44 [.ref 24, .int 1, .int (nI k), .int (nI w)] (am_WH R Z A Y) = some (some (.int 0), am_WH R Z A Y) := fun A Y => by
        rw [d_X4_reasonAgainst_24, b_X4_reasonAgainst_24_0, if_neg (by decide), b_X4_reasonAgainst_24_7, if_neg (by decide), b_X4_reasonAgainst_24_27, s_isThere2, am_C_v, am_bI_t h1, b_X4_reasonAgainst_24_32, if_neg (by decide), b_X4_reasonAgainst_24_37, if_pos rfl, b_X4_reasonAgainst_24_42, s_stands_24, am_C_v, am_bI_t s1, b_X4_reasonAgainst_24_47, if_neg (by decide), b_X4_reasonAgainst_24_50]
      have hcr := fun (A : Nat → Nat → Int32) (Y : Nat → Int32) => s_carries_24 X R Z A Y hk (v8 k hk).2 (fun c hc => (v7 c hc).2) v0.2 (v11 w hw).2
      have hmc : am_rn (A 1 k) 0 2 := by rw [← (v8 k hk).1]; exact (v8 k hk).2
      have hml : am_rn (A 1 (14 + w)) (-9) 9 := by rw [← (v11 w hw).1]; exact (v11 w hw).2
      have hmb := fun (R : Nat → Nat → Int32) (Z : Nat → Int32) => s_mbear X R Z A Y 1 k hmc (fun c hc => by rw [← (v7 c hc).1]; exact (v7 c hc).2) (by rw [← v0.1]; exact v0.2) hml
      have ecs : am_bs (Z 7) (am_dw (R 9) (R 10) k) (R 13 w) ↔ am_bs (Y 1) (am_dw (A 2) (A 1) k) (A 1 (14 + w)) := by rw [v0.1, am_dw_eq v7 (v8 k hk), (v11 w hw).1]
      have d9 := (v9 k hk).2
      have e1 : (1 : Int32).toInt = 1 := rfl
      have e3 : (3 : Int32).toInt = 3 := rfl
      have e9 : (9 : Int32).toInt = 9 := rfl
      by_cases g : am_bs (Z 7) (am_dw (R 9) (R 10) k) (R 13 w)
      · -- it bears him
        have g2 := ecs.mp g
        obtain ⟨D, eD⟩ : ∃ D, D = if R 11 k - 1 < 0 then 0 else R 11 k - 1 := ⟨_, rfl⟩
        have es : (R 11 k - 1).toInt = (R 11 k).toInt - 1 := am_sub (by omega) (by omega)
        have hD : am_rn D 0 9 := by
          rw [eD]
          by_cases g3 : R 11 k - 1 < 0
          · rw [if_pos g3]; exact ⟨by decide, by decide⟩
          · rw [if_neg g3]
            rw [Int32.lt_iff_toInt_lt, es, Int32.toInt_zero] at g3
            exact ⟨by omega, by omega⟩
        refine am_AC_yes X (R' := am_up R 11 (upd (R 11) k D)) (Z' := Z) (A' := am_up A 1 (upd (A 1) (7 + k) D)) (Y' := Y) ⟨?_, h.2.1, h.2.2.1, h.2.2.2⟩ ⟨fun j hj => am_up_n _ _ (by omega), fun _ _ => rfl, fun j hj => am_up_n _ _ hj, fun _ _ => rfl⟩ (fun _ _ _ => rfl) ⟨rfl, rfl, rfl⟩ hr (fun A Y => ?_) ?_
        · have w2 : Z 9 = upd (A 1) (7 + k) D 30 ∧ am_rn (Z 9) 0 255 := ⟨by rw [upd_n _ _ (by omega)]; exact v2.1, v2.2⟩
          have w4 : Z 11 = upd (A 1) (7 + k) D 31 ∧ am_rn (Z 11) 0 99 := ⟨by rw [upd_n _ _ (by omega)]; exact v4.1, v4.2⟩
          have w8 := am_row_no0 v8 (k := 7 + k) D (by omega)
          have w9 := am_row_upo 7 v9 k hD
          have w11 := am_row_no 14 v11 (k := 7 + k) D (by omega)
          have w12 := am_row_no 22 v12 (k := 7 + k) D (by omega)
          exact (am_VR_mk (have q := am_V0 h.1; q) (have q := am_V1 h.1; q) (w2) (have q := am_V3 h.1; q) (w4) (have q := am_V5 h.1; q) (have q := am_V6 h.1; q) (have q := am_V7 h.1; q) (w8) (w9) (have q := am_V10 h.1; q) (w11) (w12) (have q := am_V13 h.1; q) (have q := am_V14 h.1; q) (have q := am_V15 h.1; q))
        · rw [d_X4_enact_24, b_X4_enact_24_0, if_neg (by decide), if_pos rfl, b_X4_enact_24_40, d_X4_tryWall_24, b_X4_tryWall_24_0, d_X1_get_33, am_rg_nI hw (by omega), am_C_v, b_X4_tryWall_24_9, hcr, am_C_v, am_bI_t g, b_X4_tryWall_24_13, if_neg (by decide), b_X4_tryWall_24_16, d_X1_get_29, am_rg_nI hk (by omega), am_C_v, b_X4_tryWall_24_29, d_X1_set_29, am_rs_nI hk (by omega), am_C_0, b_X4_tryWall_24_38, am_C_v, b_X4_enact_24_46, if_pos rfl, eD]
        · intro R2 Z2
          rw [d_X6_climbUp, b_X6_climbUp_0, s_misThere, am_C_v, am_bI_t h2, b_X6_climbUp_5, if_neg (by decide), b_X6_climbUp_10, if_pos (show am_in (30 : Int32) 32 by decide), show (30 : Int32).toNatClampNeg = 30 from rfl, b_X6_climbUp_17, s_mhas, am_C_v, am_bI_t s2, b_X6_climbUp_21, if_neg (by decide), b_X6_climbUp_26, am_a14, if_pos (am_in_nI (by omega) (by omega)), am_cl (by omega), b_X6_climbUp_36, if_pos (am_in_nI (by omega) (by omega)), am_cl (by omega), b_X6_climbUp_42, hmb, am_C_v, am_bI_t g2, b_X6_climbUp_45, if_neg (by decide), b_X6_climbUp_48, am_a7, if_pos (am_in_nI (by omega) (by omega)), am_cl (by omega), b_X6_climbUp_58, am_a7, if_pos (am_in_nI (by omega) (by omega)), am_cl (by omega), b_X6_climbUp_67, ← (v9 k hk).1]
          by_cases g3 : R 11 k ≤ 0
          · have z : R 11 k = 0 := by
              rw [Int32.le_iff_toInt_le, Int32.toInt_zero] at g3
              exact Int32.toInt_inj.mp (by rw [Int32.toInt_zero]; omega)
            rw [if_pos g3, b_X6_climbUp_74, if_pos (am_in_nI (by omega) (by omega)), am_cl (by omega), b_X6_climbUp_77, eD, z]
            rfl
          · have z : ¬ R 11 k - 1 < 0 := by
              rw [Int32.le_iff_toInt_le, Int32.toInt_zero] at g3
              rw [Int32.lt_iff_toInt_lt, es, Int32.toInt_zero]
              omega
            rw [if_neg g3, b_X6_climbUp_70, if_pos (am_in_nI (by omega) (by omega)), am_cl (by omega), b_X6_climbUp_77, eD, if_neg z]
      · -- he falls
        have g2 : ¬ am_bs (Y 1) (am_dw (A 2) (A 1) k) (A 1 (14 + w)) := fun z => g (ecs.mpr z)
        obtain ⟨D, eD⟩ : ∃ D, D = R 11 k + 3 := ⟨_, rfl⟩
        have es : D.toInt = (R 11 k).toInt + 3 := by rw [eD]; exact am_add (by omega) (by omega)
        have mpre : ∀ (R2 : Nat → Nat → Int32) (Z2 : Nat → Int32), am_D X 117 [.ref 88, .int (nI k), .int (nI w)] (am_WH R2 Z2 A Y) = am_E X AM_X6_climbUp 79 [some (.ref 88), some (.int (nI k)), some (.int (nI w))] [] (am_WH R2 Z2 A Y) := fun R2 Z2 => by
          rw [d_X6_climbUp, b_X6_climbUp_0, s_misThere, am_C_v, am_bI_t h2, b_X6_climbUp_5, if_neg (by decide), b_X6_climbUp_10, if_pos (show am_in (30 : Int32) 32 by decide), show (30 : Int32).toNatClampNeg = 30 from rfl, b_X6_climbUp_17, s_mhas, am_C_v, am_bI_t s2, b_X6_climbUp_21, if_neg (by decide), b_X6_climbUp_26, am_a14, if_pos (am_in_nI (by omega) (by omega)), am_cl (by omega), b_X6_climbUp_36, if_pos (am_in_nI (by omega) (by omega)), am_cl (by omega), b_X6_climbUp_42, hmb, am_C_v, am_bI_f g2, b_X6_climbUp_45, if_pos rfl]
        have mfall : ∀ (R2 : Nat → Nat → Int32) (Z2 : Nat → Int32) (Y2 : Nat → Int32), am_E X AM_X6_climbUp 118 [some (.ref 88), some (.int (nI k)), some (.int (nI w))] [.int (A 1 (7 + k)), .int (nI (7 + k)), .ref 90] (am_WH R2 Z2 A Y2) = (if D ≤ 9 then some (some (.int 0), am_WH R2 Z2 (am_up A 1 (upd (A 1) (7 + k) D)) Y2) else some (some (.int 0), am_WH R2 Z2 (am_up A 1 (upd (upd (upd (A 1) (7 + k) D) k (A 1 (22 + w))) (7 + k) 0)) Y2)) := fun R2 Z2 Y2 => by
          rw [b_X6_climbUp_118, if_pos (am_in_nI (by omega) (by omega)), am_cl (by omega), b_X6_climbUp_121, am_a7, if_pos (am_in_nI (by omega) (by omega)), am_cl (by omega), am_up_s, upd_s, b_X6_climbUp_130, ← (v9 k hk).1, ← eD]
          by_cases g3 : D ≤ 9
          · rw [if_pos g3, if_pos g3, b_X6_climbUp_160]
          · rw [if_neg g3, if_neg g3, b_X6_climbUp_135, am_a22, if_pos (am_in_nI (by omega) (by omega)), am_cl (by omega), am_up_s, upd_n _ _ (by omega), b_X6_climbUp_149, if_pos (am_in_nI (by omega) (by omega)), am_cl (by omega), am_up_s, am_uu, b_X6_climbUp_150, am_a7, if_pos (am_in_nI (by omega) (by omega)), am_cl (by omega), am_up_s, am_uu, b_X6_climbUp_160]
        have m79 : ∀ (R2 : Nat → Nat → Int32) (Z2 : Nat → Int32), am_E X AM_X6_climbUp 79 [some (.ref 88), some (.int (nI k)), some (.int (nI w))] [] (am_WH R2 Z2 A Y) = if Y 5 = 0 then am_E X AM_X6_climbUp 118 [some (.ref 88), some (.int (nI k)), some (.int (nI w))] [.int (A 1 (7 + k)), .int (nI (7 + k)), .ref 90] (am_WH R2 Z2 A (am_up (am_up Y 7 (nI k)) 5 (Y 5 + 1))) else am_E X AM_X6_climbUp 118 [some (.ref 88), some (.int (nI k)), some (.int (nI w))] [.int (A 1 (7 + k)), .int (nI (7 + k)), .ref 90] (am_WH R2 Z2 A (am_up (am_up Y 7 (Y 7)) 5 (Y 5 + 1))) := fun R2 Z2 => by
          rw [b_X6_climbUp_79]
          by_cases g4 : Y 5 = 0
          · rw [if_pos g4, if_pos g4, b_X6_climbUp_87, am_a7, if_pos (am_in_nI (by omega) (by omega)), am_cl (by omega)]
          · rw [if_neg g4, if_neg g4, b_X6_climbUp_91, am_a7, if_pos (am_in_nI (by omega) (by omega)), am_cl (by omega)]
        have cpre : ∀ (A : Nat → Nat → Int32) (Y : Nat → Int32), am_D X 47 [.ref 24, .int (nI k), .int (nI w)] (am_WH R Z A Y) = if D ≤ 9 then am_E X AM_X4_tryWall 75 [some (.ref 24), some (.int (nI k)), some (.int (nI w)), some (.int D)] [] (am_WH R Z A Y) else am_E X AM_X4_tryWall 57 [some (.ref 24), some (.int (nI k)), some (.int (nI w)), some (.int D)] [] (am_WH R Z A Y) := fun A Y => by
          rw [d_X4_tryWall_24, b_X4_tryWall_24_0, d_X1_get_33, am_rg_nI hw (by omega), am_C_v, b_X4_tryWall_24_9, hcr, am_C_v, am_bI_f g, b_X4_tryWall_24_13, if_pos rfl, b_X4_tryWall_24_40, d_X1_get_29, am_rg_nI hk (by omega), am_C_v, b_X4_tryWall_24_48, eD]
        by_cases g3 : D ≤ 9
        · have hD : am_rn D 0 9 := by
            rw [Int32.le_iff_toInt_le] at g3
            exact ⟨by omega, by omega⟩
          refine am_AC_fall X h hf (R' := am_up R 11 (upd (R 11) k D)) (A' := am_up A 1 (upd (A 1) (7 + k) D)) ?_ (fun j hj => am_up_n _ _ (by omega)) (fun j hj => am_up_n _ _ hj) hr (fun A Y => ?_) (fun y0 R2 Z2 => ?_) (fun y0 R2 Z2 => ?_)
          · have w2 : Z 9 = upd (A 1) (7 + k) D 30 ∧ am_rn (Z 9) 0 255 := ⟨by rw [upd_n _ _ (by omega)]; exact v2.1, v2.2⟩
            have w4 : Z 11 = upd (A 1) (7 + k) D 31 ∧ am_rn (Z 11) 0 99 := ⟨by rw [upd_n _ _ (by omega)]; exact v4.1, v4.2⟩
            have w8 := am_row_no0 v8 (k := 7 + k) D (by omega)
            have w9 := am_row_upo 7 v9 k hD
            have w11 := am_row_no 14 v11 (k := 7 + k) D (by omega)
            have w12 := am_row_no 22 v12 (k := 7 + k) D (by omega)
            exact (am_VR_mk (have q := am_V0 h.1; q) (have q := am_V1 h.1; q) (w2) (have q := am_V3 h.1; q) (w4) (have q := am_V5 h.1; q) (have q := am_V6 h.1; q) (have q := am_V7 h.1; q) (w8) (w9) (have q := am_V10 h.1; q) (w11) (w12) (have q := am_V13 h.1; q) (have q := am_V14 h.1; q) (have q := am_V15 h.1; q))
          · rw [d_X4_enact_24, b_X4_enact_24_0, if_neg (by decide), if_pos rfl, b_X4_enact_24_40, cpre, if_pos g3, b_X4_tryWall_24_75, d_X1_set_29, am_rs_nI hk (by omega), am_C_0, b_X4_tryWall_24_84, am_C_v, b_X4_enact_24_46, if_neg (by decide), if_pos rfl]
          · rw [mpre, m79, if_pos y0, mfall, if_pos g3]
          · rw [mpre, m79, if_neg y0, mfall, if_pos g3]
        · obtain ⟨c, ec⟩ : ∃ c, c = R 14 w := ⟨_, rfl⟩
          have hc : am_rn c 0 2 := by rw [ec]; exact (v12 w hw).2
          have h0 : am_rn (0 : Int32) 0 9 := ⟨by decide, by decide⟩
          refine am_AC_fall X h hf (R' := am_up (am_up R 10 (upd (R 10) k c)) 11 (upd (R 11) k 0)) (A' := am_up A 1 (upd (upd (upd (A 1) (7 + k) D) k c) (7 + k) 0)) ?_ (fun j hj => by rw [am_up_n _ _ (by omega), am_up_n _ _ (by omega)]) (fun j hj => am_up_n _ _ hj) hr (fun A Y => ?_) (fun y0 R2 Z2 => ?_) (fun y0 R2 Z2 => ?_)
          · have w2 : Z 9 = upd (upd (upd (A 1) (7 + k) D) k c) (7 + k) 0 30 ∧ am_rn (Z 9) 0 255 := ⟨by rw [upd_n _ _ (by omega), upd_n _ _ (by omega), upd_n _ _ (by omega)]; exact v2.1, v2.2⟩
            have w4 : Z 11 = upd (upd (upd (A 1) (7 + k) D) k c) (7 + k) 0 31 ∧ am_rn (Z 11) 0 99 := ⟨by rw [upd_n _ _ (by omega), upd_n _ _ (by omega), upd_n _ _ (by omega)]; exact v4.1, v4.2⟩
            have w8 := am_row_no0 (am_row_up (am_row_no0 v8 (k := 7 + k) D (by omega)) k hc) (k := 7 + k) 0 (by omega)
            have w9 : ∀ i, i < 7 → upd (R 11) k 0 i = upd (upd (upd (A 1) (7 + k) D) k c) (7 + k) 0 (7 + i) ∧ am_rn (upd (R 11) k 0 i) 0 9 := fun i hi => by
              by_cases e : i = k
              · subst e; rw [upd_s, upd_s]; exact ⟨rfl, h0⟩
              · rw [upd_n _ _ e, upd_n _ _ (by omega), upd_n _ _ (by omega), upd_n _ _ (by omega)]; exact v9 i hi
            have w11 := am_row_no 14 (am_row_no 14 (am_row_no 14 v11 (k := 7 + k) D (by omega)) (k := k) c (by omega)) (k := 7 + k) 0 (by omega)
            have w12 := am_row_no 22 (am_row_no 22 (am_row_no 22 v12 (k := 7 + k) D (by omega)) (k := k) c (by omega)) (k := 7 + k) 0 (by omega)
            exact (am_VR_mk (have q := am_V0 h.1; q) (have q := am_V1 h.1; q) (w2) (have q := am_V3 h.1; q) (w4) (have q := am_V5 h.1; q) (have q := am_V6 h.1; q) (have q := am_V7 h.1; q) (w8) (w9) (have q := am_V10 h.1; q) (w11) (w12) (have q := am_V13 h.1; q) (have q := am_V14 h.1; q) (have q := am_V15 h.1; q))
          · rw [d_X4_enact_24, b_X4_enact_24_0, if_neg (by decide), if_pos rfl, b_X4_enact_24_40, cpre, if_neg g3, b_X4_tryWall_24_57, d_X1_get_35, am_rg_nI hw (by omega), am_C_v, b_X4_tryWall_24_70, d_X1_set_27, am_rs_nI hk (by omega), am_C_0, b_X4_tryWall_24_73, d_X1_set_29, am_rs_nI hk (by omega), am_C_0, b_X4_tryWall_24_84, am_C_v, b_X4_enact_24_46, if_neg (by decide), if_pos rfl, ec]
            rfl
          · rw [mpre, m79, if_pos y0, mfall, if_neg g3, ← (v12 w hw).1, ← ec]
          · rw [mpre, m79, if_neg y0, mfall, if_neg g3, ← (v12 w hw).1, ← ec]
    · have s1 : ¬ am_hs (Z 9) (nI w) := fun z => hs ((am_hs_nI (by omega)).mp z)
      have s2 : ¬ (A 1 30 >>> (nI w &&& 31)) &&& 1 = 1 := fun z => hs (by rw [v2.1]; exact (b_one w (by omega) _).mp z)
      refine am_AC_no X h 2 (by decide) (fun A Y => ?_) (fun R Z => ?_)
      · rw [d_X4_reasonAgainst_24, b_X4_reasonAgainst_24_0, if_neg (by decide), b_X4_reasonAgainst_24_7, if_neg (by decide), b_X4_reasonAgainst_24_27, s_isThere2, am_C_v, am_bI_t h1, b_X4_reasonAgainst_24_32, if_neg (by decide), b_X4_reasonAgainst_24_37, if_pos rfl, b_X4_reasonAgainst_24_42, s_stands_24, am_C_v, am_bI_f s1, b_X4_reasonAgainst_24_47, if_pos rfl, b_X4_reasonAgainst_24_54]
      · rw [d_X6_climbUp, b_X6_climbUp_0, s_misThere, am_C_v, am_bI_t h2, b_X6_climbUp_5, if_neg (by decide), b_X6_climbUp_10, if_pos (show am_in (30 : Int32) 32 by decide), show (30 : Int32).toNatClampNeg = 30 from rfl, b_X6_climbUp_17, s_mhas, am_C_v, am_bI_f s2, b_X6_climbUp_21, if_pos rfl, b_X6_climbUp_24]
  · have h1 := fun z => ht (q1.mp z)
    have h2 := fun z => ht (q2.mp z)
    refine am_AC_no X h 1 (by decide) (fun A Y => ?_) (fun R Z => ?_)
    · rw [d_X4_reasonAgainst_24, b_X4_reasonAgainst_24_0, if_neg (by decide), b_X4_reasonAgainst_24_7, if_neg (by decide), b_X4_reasonAgainst_24_27, s_isThere2, am_C_v, am_bI_f h1, b_X4_reasonAgainst_24_32, if_pos rfl, b_X4_reasonAgainst_24_35]
    · rw [d_X6_climbUp, b_X6_climbUp_0, s_misThere, am_C_v, am_bI_f h2, b_X6_climbUp_5, if_pos rfl, b_X6_climbUp_8]
