/-! years: acts one behind another, of both. -/
/-- the pad, of both -/
def am_ST (n : Nat) (s : Nat → Int32) (R : Nat → Nat → Int32) (Z : Nat → Int32) (A : Nat → Nat → Int32) (Y : Nat → Int32) : Prop := Z 28 = nI n ∧ Y 4 = nI n ∧ (∀ j, j < 60 → R 36 j = s j) ∧ (∀ j, j < 60 → A 8 j = s j)
theorem am_ST_kp {n : Nat} {s : Nat → Int32} {R R' : Nat → Nat → Int32} {Z Z' : Nat → Int32} {A A' : Nat → Nat → Int32} {Y Y' : Nat → Int32} (hS : am_ST n s R Z A Y) (hK : am_kp R Z A Y R' Z' A' Y') : am_ST n s R' Z' A' Y' := by
  unfold am_ST
  rw [hK.2.1 28 (by omega), hK.2.2.2 4 (by omega), hK.1 36 (by omega), hK.2.2.1 8 (by omega)]
  exact hS
/-- so far no act that can not be -/
def am_TY (R : Nat → Nat → Int32) (Z : Nat → Int32) (A : Nat → Nat → Int32) (Y : Nat → Int32) (f m : Nat) : Prop := am_TL R Z A Y f ∧ Z 29 = nI m ∧ Y 9 = nI m ∧ Z 32 = Y 6 ∧ (f = 0 → Y 6 = -6) ∧ (0 < f → 0 ≤ Y 6) ∧ Z 30 = -6 ∧ Z 31 = -6
/-- what is told from the sign i on -/
def am_TR (X : AMx) (R : Nat → Nat → Int32) (Z : Nat → Int32) (A : Nat → Nat → Int32) (Y : Nat → Int32) (i : Nat) : Prop := ∃ (R' : Nat → Nat → Int32) (Z' : Nat → Int32) (A' : Nat → Nat → Int32) (Y' : Nat → Int32) (f' : Nat) (bad : Int32), am_TL R' Z' A' Y' f' ∧ am_kp R Z A Y R' Z' A' Y' ∧ Z' 32 = Y' 6 ∧ Z' 29 = Y' 9 ∧ ((bad = -6 ∧ Z' 30 = -6 ∧ Z' 31 = -6) ∨ (0 ≤ bad ∧ Z' 30 = bad ∧ Z' 31 = Y' 8)) ∧ (∀ (A : Nat → Nat → Int32) (Y : Nat → Int32) (y4 : Option Value), am_E X AM_X3_tellYears 18 [some (.ref 23), some (.ref 20), some (.ref 1), some (.int (nI i)), y4] [] (am_WH R Z A Y) = some (some (.int (am_bI (bad = -6))), am_WH R' Z' A Y)) ∧ (∀ (R : Nat → Nat → Int32) (Z : Nat → Int32) (y2 y3 y4 : Option Value), am_E X AM_X6_goYears 11 [some (.ref 88), some (.int (nI i)), y2, y3, y4] [] (am_WH R Z A Y) = some (some (.int bad), am_WH R Z A' Y'))
theorem am_TL_Y {R : Nat → Nat → Int32} {Z : Nat → Int32} {A : Nat → Nat → Int32} {Y Y' : Nat → Int32} {f : Nat} (h : am_TL R Z A Y f) (hY : ∀ j, j < 4 ∨ j = 5 ∨ j = 7 → Y' j = Y j) : am_TL R Z A Y' f := by
  unfold am_TL am_OV
  rw [hY 0 (by omega), hY 1 (by omega), hY 2 (by omega), hY 3 (by omega), hY 5 (by omega), hY 7 (by omega)]
  exact h
theorem l_step (X : AMx) {n i e : Nat} (hi : i < n) (he : i ≤ e) (hen : e < n) (hn : n ≤ 60) {s : Nat → Int32} {R : Nat → Nat → Int32} {Z : Nat → Int32} {A : Nat → Nat → Int32} {Y : Nat → Int32} {f m : Nat} (hS : am_ST n s R Z A Y) (hT : am_TY R Z A Y f m) (hf : f ≤ m) (hm : m ≤ i) {kd a t : Int32} {Q : Int32 → (Nat → Nat → Int32) → (Nat → Int32) → Prop} (hA : am_AC X R Z A (am_up Y 8 0) f kd a t Q) (cP : ∀ (r : Int32) (R1 : Nat → Nat → Int32) (Z1 : Nat → Int32), (∀ (A : Nat → Nat → Int32) (Y : Nat → Int32), am_D X 28 [.ref 23, .int kd, .int a, .int t] (am_WH R Z A Y) = some (some (.int r), am_WH R1 Z1 A Y)) → ∀ (A : Nat → Nat → Int32) (Y : Nat → Int32) (y4 : Option Value), am_E X AM_X3_tellYears 18 [some (.ref 23), some (.ref 20), some (.ref 1), some (.int (nI i)), y4] [] (am_WH R Z A Y) = if r = 0 then am_E X AM_X3_tellYears 18 [some (.ref 23), some (.ref 20), some (.ref 1), some (.int (nI (e + 1))), some (.int r)] [] (am_WH R1 Z1 A Y) else am_E X AM_X3_tellYears 18 [some (.ref 23), some (.ref 20), some (.ref 1), some (.int (nI (e + 1))), some (.int r)] [] (am_WH R1 (am_up (am_up Z1 30 (Z1 29)) 31 r) A Y)) (mP : ∀ (r : Int32) (A1 : Nat → Nat → Int32) (Y1 : Nat → Int32), Q r A1 Y1 → (0 < r ∨ r = 0) → Y1 8 = 0 → ∃ YP : Nat → Int32, (∀ j, j ≠ 8 → YP j = Y1 j) ∧ YP 8 = r ∧ ∀ (R : Nat → Nat → Int32) (Z : Nat → Int32) (y2 y3 y4 : Option Value), ∃ (l2 : Int32) (z4 : Option Value), am_E X AM_X6_goYears 11 [some (.ref 88), some (.int (nI i)), y2, y3, y4] [] (am_WH R Z A Y) = if r = 0 then am_E X AM_X6_goYears 163 [some (.ref 88), some (.int (nI e)), some (.int l2), some (.int (nI f)), z4] [] (am_WH R Z A1 YP) else some (some (.int (YP 9)), am_WH R Z A1 YP)) (ih : ∀ (R : Nat → Nat → Int32) (Z : Nat → Int32) (A : Nat → Nat → Int32) (Y : Nat → Int32) (f m : Nat), am_ST n s R Z A Y → am_TY R Z A Y f m → f ≤ m → m ≤ e + 1 → am_TR X R Z A Y (e + 1)) : am_TR X R Z A Y i := by
  obtain ⟨hTL, t29, t9, t32, tf0, tf1, t30, t31⟩ := hT
  obtain ⟨r, R1, Z1, A1, Y1, f1, hT1, hK1, ⟨z30, z31, y6, y8, y9⟩, hC, ha, hQ⟩ := hA
  have y6' : Y1 6 = Y 6 := y6
  have y8' : Y1 8 = 0 := y8
  have y9' : Y1 9 = Y 9 := y9
  have hr01 : 0 < r ∨ r = 0 := by
    rcases hC with h | h
    · exact Or.inl h.1
    · exact Or.inr h.1
  obtain ⟨YP, hYP, hY8, hm2⟩ := mP r A1 Y1 hQ hr01 y8'
  have hTP : am_TL R1 Z1 A1 YP f1 := am_TL_Y hT1 (fun j hj => hYP j (by omega))
  have hKP : am_kp R Z A Y R1 Z1 A1 YP := ⟨hK1.1, hK1.2.1, hK1.2.2.1, fun j hj => (hYP j (by omega)).trans ((hK1.2.2.2 j hj).trans (am_up_n _ _ (by omega)))⟩
  have p6 : YP 6 = Y 6 := (hYP 6 (by omega)).trans y6'
  have p9 : YP 9 = nI m := (hYP 9 (by omega)).trans (y9'.trans t9)
  have p5 : YP 5 = nI f1 := (hYP 5 (by omega)).trans hT1.2.2.1
  rcases hC with ⟨hr, hf1, z29, z32⟩ | ⟨hr, z29, hff⟩
  · have hr0 := am_pos_ne hr
    obtain ⟨M, eM⟩ : ∃ M, M = Z1 29 := ⟨_, rfl⟩
    have eM2 : M = nI m := eM.trans (z29.trans t29)
    have h6 : ¬ M = -6 := by rw [eM2]; exact aw_nI6 (by omega)
    refine ⟨R1, am_up (am_up Z1 30 M) 31 r, A1, YP, f1, M, ⟨(am_VR_mk (have q := am_V0 hTP.1; q) (have q := am_V1 hTP.1; q) (have q := am_V2 hTP.1; q) (have q := am_V3 hTP.1; q) (have q := am_V4 hTP.1; q) (have q := am_V5 hTP.1; q) (have q := am_V6 hTP.1; q) (have q := am_V7 hTP.1; q) (have q := am_V8 hTP.1; q) (have q := am_V9 hTP.1; q) (have q := am_V10 hTP.1; q) (have q := am_V11 hTP.1; q) (have q := am_V12 hTP.1; q) (have q := am_V13 hTP.1; q) (have q := am_V14 hTP.1; q) (have q := am_V15 hTP.1; q)), hTP.2.1, hTP.2.2.1, hTP.2.2.2⟩, ⟨hKP.1, fun j hj => by rw [am_up_n _ _ (by omega), am_up_n _ _ (by omega)]; exact hKP.2.1 j hj, hKP.2.2.1, hKP.2.2.2⟩, ?_, ?_, Or.inr ⟨by rw [eM2]; exact nI_pos' (by omega), rfl, hY8.symm⟩, fun A Y y4 => ?_, fun R Z y2 y3 y4 => ?_⟩
    · show Z1 32 = YP 6
      rw [z32, t32, p6]
    · show Z1 29 = YP 9
      rw [z29, t29, p9]
    · have c89 : ∀ l3 y4, am_E X AM_X3_tellYears 89 [some (.ref 23), some (.ref 20), some (.ref 1), some (.int l3), y4] [] (am_WH R1 (am_up (am_up Z1 30 M) 31 r) A Y) = some (some (.int 0), am_WH R1 (am_up (am_up Z1 30 M) 31 r) A Y) := fun l3 y4 => by
        rw [b_X3_tellYears_89, if_neg (show ¬ am_up (am_up Z1 30 M) 31 r 30 = -6 from h6), b_X3_tellYears_102]
      rw [eM, cP r R1 Z1 ha A Y y4, if_neg hr0, ← eM, b_X3_tellYears_18, am_bI_f h6]
      by_cases g : am_up (am_up Z1 30 M) 31 r 28 ≤ nI (e + 1)
      · rw [if_pos g, c89]
      · rw [if_neg g, b_X3_tellYears_26, if_neg (show ¬ am_up (am_up Z1 30 M) 31 r 30 = -6 from h6), c89]
    · obtain ⟨l2, z4, h⟩ := hm2 R Z y2 y3 y4
      rw [h, if_neg hr0, p9, eM2]
  · subst hr
    obtain ⟨v, ev⟩ : ∃ v, v = if 0 ≤ YP 6 then YP 6 else if YP 5 ≤ nI f then YP 6 else YP 9 := ⟨_, rfl⟩
    obtain ⟨W, eW⟩ : ∃ W, W = YP 9 + 1 := ⟨_, rfl⟩
    have m163 : ∀ (R : Nat → Nat → Int32) (Z : Nat → Int32) (l2 : Int32) (z4 : Option Value), am_E X AM_X6_goYears 163 [some (.ref 88), some (.int (nI e)), some (.int l2), some (.int (nI f)), z4] [] (am_WH R Z A1 YP) = am_E X AM_X6_goYears 11 [some (.ref 88), some (.int (nI (e + 1))), some (.int l2), some (.int (nI f)), z4] [] (am_WH R Z A1 (am_up (am_up YP 6 v) 9 W)) := fun R Z l2 z4 => by
      rw [b_X6_goYears_163, ev, eW]
      by_cases g : 0 ≤ YP 6
      · rw [if_pos g, if_pos g, b_X6_goYears_186, nI_1]
      · rw [if_neg g, if_neg g, b_X6_goYears_171]
        by_cases g2 : YP 5 ≤ nI f
        · rw [if_pos g2, if_pos g2, b_X6_goYears_186, nI_1]
        · rw [if_neg g2, if_neg g2, b_X6_goYears_179, nI_1]
    have hK2 : am_kp R Z A Y R1 Z1 A1 (am_up (am_up YP 6 v) 9 W) := ⟨hKP.1, hKP.2.1, hKP.2.2.1, fun j hj => by rw [am_up_n _ _ (by omega), am_up_n _ _ (by omega)]; exact hKP.2.2.2 j hj⟩
    have hT2 : am_TL R1 Z1 A1 (am_up (am_up YP 6 v) 9 W) f1 := am_TL_Y hTP (fun j hj => by rw [am_up_n _ _ (by omega), am_up_n _ _ (by omega)])
    have hv : Z1 32 = v ∧ (f1 = 0 → v = -6) ∧ (0 < f1 → 0 ≤ v) := by
      rw [ev]
      rcases hff with ⟨h1, h2⟩ | ⟨h1, h2⟩
      · have e : (if 0 ≤ YP 6 then YP 6 else if YP 5 ≤ nI f then YP 6 else YP 9) = Y 6 := by
          by_cases g : 0 ≤ YP 6
          · rw [if_pos g, p6]
          · rw [if_neg g, p5, h1, if_pos (Int32.le_refl _), p6]
        rw [e, h1]
        exact ⟨h2.trans t32, tf0, tf1⟩
      · by_cases g0 : f = 0
        · have e : (if 0 ≤ YP 6 then YP 6 else if YP 5 ≤ nI f then YP 6 else YP 9) = nI m := by
            rw [p6, tf0 g0, if_neg (by decide), p5, h1, if_neg (nI_ge (by omega) (by omega)), p9]
          rw [e, h2, if_pos g0]
          exact ⟨t29, fun z => by omega, fun _ => nI_pos' (by omega)⟩
        · have e : (if 0 ≤ YP 6 then YP 6 else if YP 5 ≤ nI f then YP 6 else YP 9) = Y 6 := by
            rw [p6, if_pos (tf1 (by omega))]
          rw [e, h2, if_neg g0]
          exact ⟨t32, fun z => by omega, fun _ => tf1 (by omega)⟩
    have hf1 : f1 ≤ f + 1 := by omega
    obtain ⟨R', Z', A', Y', f', bad, g1, g2, g3, g4, g5, g6, g7⟩ := ih R1 Z1 A1 (am_up (am_up YP 6 v) 9 W) f1 (m + 1) (am_ST_kp hS hK2) ⟨hT2, by rw [z29, t29, nI_1], by rw [am_up_s, eW, p9, nI_1], hv.1, hv.2.1, hv.2.2, z30.trans t30, z31.trans t31⟩ (by omega) (by omega)
    refine ⟨R', Z', A', Y', f', bad, g1, am_kp_trans hK2 g2, g3, g4, g5, fun A Y y4 => ?_, fun R Z y2 y3 y4 => ?_⟩
    · rw [cP 0 R1 Z1 ha A Y y4, if_pos rfl, g6]
    · obtain ⟨l2, z4, h⟩ := hm2 R Z y2 y3 y4
      rw [h, if_pos rfl, m163, g7]
/-! the class's signs -/
theorem s_endsAct (X : AMx) (R : Nat → Nat → Int32) (Z : Nat → Int32) (A : Nat → Nat → Int32) (Y : Nat → Int32) {j : Nat} (hj : j < 60) : am_D X 6 [.ref 20, .int (nI j)] (am_WH R Z A Y) = some (some (.int (am_bI (¬ (65 ≤ R 36 j ∧ R 36 j ≤ 71) ∧ ¬ R 36 j = 94))), am_WH R Z A Y) := by
  rw [d_X0_endsAct, b_X0_endsAct_0, d_X1_get_21, am_rg_nI hj (by omega), am_C_v, b_X0_endsAct_8, s_isOneSign, am_C_v, b_X0_endsAct_11]
  by_cases g : 65 ≤ R 36 j ∧ R 36 j ≤ 71
  · rw [am_bI_t g, if_neg (by decide), b_X0_endsAct_31, am_bI_f (fun z => z.1 g)]
  · rw [am_bI_f g, if_pos rfl, b_X0_endsAct_14, d_X1_get_21, am_rg_nI hj (by omega), am_C_v, b_X0_endsAct_22]
    by_cases g2 : R 36 j = 94
    · rw [if_pos g2, b_X0_endsAct_31, am_bI_f (fun z => z.2 g2)]
    · rw [if_neg g2, b_X0_endsAct_27, am_bI_t ⟨g, g2⟩]
def aw_kd (x p : Int32) : Int32 := if x = 42 then 3 else if x = 46 then 4 else if 120 ≤ x ∧ x ≤ 122 then 2 else if p = 94 then 1 else 0
theorem s_kindAt (X : AMx) (R : Nat → Nat → Int32) (Z : Nat → Int32) (A : Nat → Nat → Int32) (Y : Nat → Int32) {j : Nat} (hj : j < 60) : am_D X 7 [.ref 20, .int (nI j)] (am_WH R Z A Y) = some (some (.int (aw_kd (R 36 j) (am_rg 60 (R 36) (nI j - 1)))), am_WH R Z A Y) := by
  rw [d_X0_kindAt, b_X0_kindAt_0, d_X1_get_21, am_rg_nI hj (by omega), am_C_v, b_X0_kindAt_8]
  unfold aw_kd
  by_cases g1 : R 36 j = 42
  · rw [if_pos g1, if_pos g1, b_X0_kindAt_15]
  · rw [if_neg g1, if_neg g1, b_X0_kindAt_17]
    by_cases g2 : R 36 j = 46
    · rw [if_pos g2, if_pos g2, b_X0_kindAt_23]
    · rw [if_neg g2, if_neg g2, b_X0_kindAt_25, s_isCreedSign, am_C_v, b_X0_kindAt_29]
      by_cases g3 : 120 ≤ R 36 j ∧ R 36 j ≤ 122
      · rw [am_bI_t g3, if_neg (by decide), if_pos g3, b_X0_kindAt_32]
      · rw [am_bI_f g3, if_pos rfl, if_neg g3, b_X0_kindAt_34, d_X1_get_21, am_C_v, b_X0_kindAt_44]
        by_cases g4 : am_rg 60 (R 36) (nI j - 1) = 94
        · rw [if_pos g4, if_pos g4, b_X0_kindAt_49]
        · rw [if_neg g4, if_neg g4, b_X0_kindAt_53]
theorem s_oneAt (X : AMx) (R : Nat → Nat → Int32) (Z : Nat → Int32) (A : Nat → Nat → Int32) (Y : Nat → Int32) {j : Nat} (hj : j < 60) : am_D X 8 [.ref 20, .int (nI j)] (am_WH R Z A Y) = some (some (.int ((if aw_kd (R 36 j) (am_rg 60 (R 36) (nI j - 1)) = 1 then am_rg 60 (R 36) (nI j - 2) else am_rg 60 (R 36) (nI j - 1)) - 65)), am_WH R Z A Y) := by
  rw [d_X0_oneAt, b_X0_oneAt_0, s_kindAt X R Z A Y hj, am_C_v, b_X0_oneAt_9]
  by_cases g : aw_kd (R 36 j) (am_rg 60 (R 36) (nI j - 1)) = 1
  · rw [if_pos g, if_pos g, b_X0_oneAt_13, d_X1_get_21, am_C_v, b_X0_oneAt_25]
  · rw [if_neg g, if_neg g, b_X0_oneAt_19, d_X1_get_21, am_C_v, b_X0_oneAt_25]
theorem s_targetAt (X : AMx) (R : Nat → Nat → Int32) (Z : Nat → Int32) (A : Nat → Nat → Int32) (Y : Nat → Int32) {j : Nat} (hj : j < 60) : am_D X 9 [.ref 20, .int (nI j)] (am_WH R Z A Y) = some (some (.int (if 120 ≤ R 36 j ∧ R 36 j ≤ 122 then R 36 j - 120 else R 36 j - 48)), am_WH R Z A Y) := by
  rw [d_X0_targetAt, b_X0_targetAt_0, d_X1_get_21, am_rg_nI hj (by omega), am_C_v, b_X0_targetAt_8, d_X1_get_21, am_rg_nI hj (by omega), am_C_v, b_X0_targetAt_16, s_isCreedSign, am_C_v, b_X0_targetAt_19]
  by_cases g : 120 ≤ R 36 j ∧ R 36 j ≤ 122
  · rw [am_bI_t g, if_neg (by decide), if_pos g, b_X0_targetAt_22]
  · rw [am_bI_f g, if_pos rfl, if_neg g, b_X0_targetAt_27]
theorem c_skip (X : AMx) (R : Nat → Nat → Int32) (Z : Nat → Int32) (A : Nat → Nat → Int32) (Y : Nat → Int32) {n j : Nat} (hn : n ≤ 60) (hj : j < n) (hZ : Z 28 = nI n) (h30 : Z 30 = -6) (hs : ¬ (¬ (65 ≤ R 36 j ∧ R 36 j ≤ 71) ∧ ¬ R 36 j = 94)) (y4 : Option Value) : am_E X AM_X3_tellYears 18 [some (.ref 23), some (.ref 20), some (.ref 1), some (.int (nI j)), y4] [] (am_WH R Z A Y) = am_E X AM_X3_tellYears 18 [some (.ref 23), some (.ref 20), some (.ref 1), some (.int (nI (j + 1))), y4] [] (am_WH R Z A Y) := by
  rw [b_X3_tellYears_18, hZ, if_neg (nI_ge (by omega) (by omega)), b_X3_tellYears_26, if_pos h30, b_X3_tellYears_35, s_endsAct X R Z A Y (by omega), am_C_v, am_bI_f hs, b_X3_tellYears_40, if_pos rfl, b_X3_tellYears_83, nI_1]
theorem c_act (X : AMx) (R : Nat → Nat → Int32) (Z : Nat → Int32) {n e : Nat} (hn : n ≤ 60) (he : e < n) (hZ : Z 28 = nI n) (h30 : Z 30 = -6) (hs : ¬ (65 ≤ R 36 e ∧ R 36 e ≤ 71) ∧ ¬ R 36 e = 94) {kd a t : Int32} (hk : aw_kd (R 36 e) (am_rg 60 (R 36) (nI e - 1)) = kd) (ha : (if aw_kd (R 36 e) (am_rg 60 (R 36) (nI e - 1)) = 1 then am_rg 60 (R 36) (nI e - 2) else am_rg 60 (R 36) (nI e - 1)) - 65 = a) (ht : (if 120 ≤ R 36 e ∧ R 36 e ≤ 122 then R 36 e - 120 else R 36 e - 48) = t) (r : Int32) (R1 : Nat → Nat → Int32) (Z1 : Nat → Int32) (hr : ∀ (A : Nat → Nat → Int32) (Y : Nat → Int32), am_D X 28 [.ref 23, .int kd, .int a, .int t] (am_WH R Z A Y) = some (some (.int r), am_WH R1 Z1 A Y)) (A : Nat → Nat → Int32) (Y : Nat → Int32) (y4 : Option Value) : am_E X AM_X3_tellYears 18 [some (.ref 23), some (.ref 20), some (.ref 1), some (.int (nI e)), y4] [] (am_WH R Z A Y) = if r = 0 then am_E X AM_X3_tellYears 18 [some (.ref 23), some (.ref 20), some (.ref 1), some (.int (nI (e + 1))), some (.int r)] [] (am_WH R1 Z1 A Y) else am_E X AM_X3_tellYears 18 [some (.ref 23), some (.ref 20), some (.ref 1), some (.int (nI (e + 1))), some (.int r)] [] (am_WH R1 (am_up (am_up Z1 30 (Z1 29)) 31 r) A Y) := by
  rw [b_X3_tellYears_18, hZ, if_neg (nI_ge (by omega) (by omega)), b_X3_tellYears_26, if_pos h30, b_X3_tellYears_35, s_endsAct X R Z A Y (by omega), am_C_v, am_bI_t hs, b_X3_tellYears_40, if_neg (by decide), b_X3_tellYears_43, s_kindAt X R Z A Y (by omega), am_C_v, b_X3_tellYears_49, s_oneAt X R Z A Y (by omega), am_C_v, b_X3_tellYears_54, s_targetAt X R Z A Y (by omega), am_C_v, b_X3_tellYears_59, ha, hk, ht, hr, am_C_v, b_X3_tellYears_62]
  by_cases g : r = 0
  · rw [if_pos g, if_pos g, b_X3_tellYears_83, nI_1]
  · rw [if_neg g, if_neg g, b_X3_tellYears_69, nI_1]
/-! the reference's signs -/
theorem m_start (X : AMx) (R : Nat → Nat → Int32) (Z : Nat → Int32) (A : Nat → Nat → Int32) (Y : Nat → Int32) {n i f : Nat} (hn : n ≤ 60) (hi : i < n) (hY : Y 4 = nI n) (h5 : Y 5 = nI f) (y2 y3 y4 : Option Value) : am_E X AM_X6_goYears 11 [some (.ref 88), some (.int (nI i)), y2, y3, y4] [] (am_WH R Z A Y) = if A 8 i = 46 then am_E X AM_X6_goYears 42 [some (.ref 88), some (.int (nI i)), some (.int (A 8 i)), some (.int (nI f)), y4] [] (am_WH R Z A (am_up Y 8 0)) else am_E X AM_X6_goYears 53 [some (.ref 88), some (.int (nI i)), some (.int (A 8 i)), some (.int (nI f)), y4] [] (am_WH R Z A (am_up Y 8 0)) := by
  rw [b_X6_goYears_11, hY, if_neg (nI_ge (by omega) (by omega)), b_X6_goYears_19, if_pos (am_in_nI (by omega) (by omega)), am_cl (by omega), b_X6_goYears_25, h5]
theorem m_le {r : Int32} (h : 0 < r ∨ r = 0) : r ≤ 0 ↔ r = 0 := by
  constructor
  · intro z
    rcases h with h | h
    · exact absurd z (Int32.not_le.mpr h)
    · exact h
  · intro z
    rw [z]
    exact Int32.le_refl _
/-- signs of walls and creeds -/
theorem aw_sg {x b : Int32} {k : Nat} {B : Int} (hB : b.toInt = B) (h0 : 0 ≤ B) (h1 : B ≤ x.toInt) (h2 : x.toInt < B + k) (hk : k ≤ 100) : ∃ w, w < k ∧ x - b = nI w := by
  have e : (x - b).toInt = x.toInt - B := by rw [am_sub (by rw [hB]; have := x.toInt_lt; omega) (by rw [hB]; have := x.toInt_lt; omega), hB]
  exact am_rn_ix (m := k - 1) ⟨by omega, by omega⟩ (by omega) (by omega)
theorem aw_sgw {x : Int32} (h : 48 ≤ x ∧ x ≤ 55) : ∃ w, w < 8 ∧ x - 48 = nI w := by
  have r := am_rn_le h
  have r1 : (48 : Int) ≤ x.toInt := r.1
  have r2 : x.toInt ≤ (55 : Int) := r.2
  exact aw_sg (B := 48) (k := 8) rfl (by omega) r1 (by omega) (by omega)
theorem aw_sgc {x : Int32} (h : 120 ≤ x ∧ x ≤ 122) : ∃ w, w < 3 ∧ x - 120 = nI w := by
  have r := am_rn_le h
  have r1 : (120 : Int) ≤ x.toInt := r.1
  have r2 : x.toInt ≤ (122 : Int) := r.2
  exact aw_sg (B := 120) (k := 3) rfl (by omega) r1 (by omega) (by omega)
theorem aw_no {x a b c d : Int32} (h : a ≤ x ∧ x ≤ b) (h2 : b < c) : ¬ (c ≤ x ∧ x ≤ d) := fun z => by
  rw [Int32.lt_iff_toInt_lt] at h2
  have h3 := Int32.le_iff_toInt_le.mp h.2
  have h4 := Int32.le_iff_toInt_le.mp z.1
  omega
theorem aw_no2 {x a b c d : Int32} (h : a ≤ x ∧ x ≤ b) (h2 : d < a) : ¬ (c ≤ x ∧ x ≤ d) := fun z => by
  rw [Int32.lt_iff_toInt_lt] at h2
  have h3 := Int32.le_iff_toInt_le.mp h.1
  have h4 := Int32.le_iff_toInt_le.mp z.2
  omega
theorem aw_ne {x a b c : Int32} (h : a ≤ x ∧ x ≤ b) (h2 : b < c ∨ c < a) : ¬ x = c := fun z => by
  have h3 := Int32.le_iff_toInt_le.mp h.1
  have h4 := Int32.le_iff_toInt_le.mp h.2
  rw [z] at h3 h4
  rw [Int32.lt_iff_toInt_lt, Int32.lt_iff_toInt_lt] at h2
  omega
theorem l_years (X : AMx) {n : Nat} (hn : n ≤ 60) {s : Nat → Int32} : ∀ (N d : Nat), d ≤ N → ∀ (i : Nat), i + d = n → aw_fp s n d i 0 = -6 → ∀ (R : Nat → Nat → Int32) (Z : Nat → Int32) (A : Nat → Nat → Int32) (Y : Nat → Int32) (f m : Nat), am_ST n s R Z A Y → am_TY R Z A Y f m → f ≤ m → m ≤ i → am_TR X R Z A Y i := by
  intro N
  induction N with
  | zero =>
    intro d hd i hi hfp R Z A Y f m hS hT hf hm
    obtain rfl : i = n := by omega
    obtain ⟨hTL, t29, t9, t32, tf0, tf1, t30, t31⟩ := hT
    refine ⟨R, Z, A, Y, f, -6, hTL, am_kp_refl R Z A Y, t32, t29.trans t9.symm, Or.inl ⟨rfl, t30, t31⟩, fun A Y y4 => ?_, fun R Z y2 y3 y4 => ?_⟩
    · rw [b_X3_tellYears_18, hS.1, if_pos (Int32.le_refl _), b_X3_tellYears_89, if_pos t30, b_X3_tellYears_98, am_bI_t rfl]
    · rw [b_X6_goYears_11, hS.2.1, if_pos (Int32.le_refl _), b_X6_goYears_209]
  | succ N ih =>
    intro d hd i hi hfp R Z A Y f m hS hT hf hm
    match d, hd, hi, hfp with
    | 0, hd, hi, hfp => exact ih 0 (by omega) i hi hfp R Z A Y f m hS hT hf hm
    | d + 1, hd, hi, hfp =>
      obtain ⟨h3, hfp⟩ := aw_fp_1 (by omega) hi hfp
      have hs1 : R 36 i = s i := hS.2.2.1 i (by omega)
      have hs2 : A 8 i = s i := hS.2.2.2 i (by omega)
      have t30 : Z 30 = -6 := hT.2.2.2.2.2.2.1
      have h5 : Y 5 = nI f := hT.1.2.2.1
      have hTL : am_TL R Z A (am_up Y 8 0) f := am_TL_Y hT.1 (fun j hj => am_up_n _ _ (by omega))
      by_cases g1 : 65 ≤ s i ∧ s i ≤ 71
      · have e1 : aw_rm (s i) 0 = 1 := by unfold aw_rm; rw [if_pos rfl, if_pos g1]
        rw [e1] at hfp
        have n42 : ¬ s i = 42 := aw_ne g1 (Or.inr (by decide))
        have n46 : ¬ s i = 46 := aw_ne g1 (Or.inr (by decide))
        have n94 : ¬ s i = 94 := aw_ne g1 (Or.inl (by decide))
        match d, hd, hi, hfp with
        | 0, hd, hi, hfp => exact absurd (aw_fp_0 (by omega) hfp) (by omega)
        | d + 1, hd, hi, hfp =>
          obtain ⟨h3', hfp⟩ := aw_fp_1 (by omega) (by omega) hfp
          have hs3 : R 36 (i + 1) = s (i + 1) := hS.2.2.1 (i + 1) (by omega)
          have hs4 : A 8 (i + 1) = s (i + 1) := hS.2.2.2 (i + 1) (by omega)
          have ep : am_rg 60 (R 36) (nI (i + 1) - 1) = s i := by rw [nI_pred, am_rg_nI (by omega) (by omega), hs1]
          have ck : ∀ (A : Nat → Nat → Int32) (Y : Nat → Int32) (y4 : Option Value), am_E X AM_X3_tellYears 18 [some (.ref 23), some (.ref 20), some (.ref 1), some (.int (nI i)), y4] [] (am_WH R Z A Y) = am_E X AM_X3_tellYears 18 [some (.ref 23), some (.ref 20), some (.ref 1), some (.int (nI (i + 1))), y4] [] (am_WH R Z A Y) := fun A Y y4 => c_skip X R Z A Y hn (by omega) hS.1 t30 (by rw [hs1]; exact fun z => z.1 g1) y4
          have mk : ∀ (R : Nat → Nat → Int32) (Z : Nat → Int32) (y2 y3 y4 : Option Value), am_E X AM_X6_goYears 11 [some (.ref 88), some (.int (nI i)), y2, y3, y4] [] (am_WH R Z A Y) = if s (i + 1) = 94 then am_E X AM_X6_goYears 84 [some (.ref 88), some (.int (nI (i + 1))), some (.int (s i)), some (.int (nI f)), some (.int (s (i + 1)))] [] (am_WH R Z A (am_up Y 8 0)) else am_E X AM_X6_goYears 111 [some (.ref 88), some (.int (nI (i + 1))), some (.int (s i)), some (.int (nI f)), some (.int (s (i + 1)))] [] (am_WH R Z A (am_up Y 8 0)) := fun R Z y2 y3 y4 => by
            rw [m_start X R Z A Y hn (by omega) hS.2.1 h5, hs2, if_neg n46, b_X6_goYears_53, if_neg n42, b_X6_goYears_66, nI_1, if_pos (am_in_nI (by omega) (by omega)), am_cl (by omega), b_X6_goYears_75, hs4]
          by_cases g2 : 48 ≤ s (i + 1) ∧ s (i + 1) ≤ 55
          · -- he builds
            have e2 : aw_rm (s (i + 1)) 1 = 0 := by unfold aw_rm; rw [if_neg (by decide), if_pos g2]
            rw [e2] at hfp
            obtain ⟨w, hw, ew⟩ := aw_sgw g2
            have nc := aw_no (c := 120) (d := 122) g2 (by decide)
            have n1 := aw_no (c := 65) (d := 71) g2 (by decide)
            have n94' : ¬ s (i + 1) = 94 := aw_ne g2 (Or.inl (by decide))
            have ekd : aw_kd (R 36 (i + 1)) (am_rg 60 (R 36) (nI (i + 1) - 1)) = 0 := by
              unfold aw_kd
              rw [hs3, ep, if_neg (aw_ne g2 (Or.inr (by decide))), if_neg (aw_ne g2 (Or.inr (by decide))), if_neg nc, if_neg n94]
            refine l_step X (e := i + 1) (by omega) (by omega) (by omega) hn hS hT hf hm (act_build X hTL (s i - 65) hw) (fun r R1 Z1 hr A Y y4 => ?_) (fun r A1 Y1 hQ hr0 hy8 => ⟨am_up Y1 8 r, fun j hj => am_up_n _ _ hj, am_up_s _ _ _, fun R Z y2 y3 y4 => ⟨s i, some (.int (s (i + 1))), ?_⟩⟩) (fun R Z A Y f m hS hT hf hm => ih d (by omega) (i + 1 + 1) (by omega) hfp R Z A Y f m hS hT hf hm)
            · rw [ck A Y y4]
              exact c_act X R Z hn (by omega) hS.1 t30 (by rw [hs3]; exact ⟨n1, n94'⟩) ekd (by rw [ekd, if_neg (by decide), ep]) (by rw [hs3, if_neg nc, ew]) r R1 Z1 hr A Y y4
            · rw [mk R Z y2 y3 y4, if_neg n94', b_X6_goYears_111, if_pos (show s (i + 1) < 120 from Int32.not_le.mp (fun z => nc ⟨z, Int32.le_trans g2.2 (by decide)⟩)), b_X6_goYears_135, ew, hQ, am_C_v, b_X6_goYears_148]
              by_cases gr : r = 0
              · rw [if_pos gr, if_pos ((m_le hr0).mpr gr)]
              · rw [if_neg gr, if_neg (fun z => gr ((m_le hr0).mp z)), b_X6_goYears_158]
          · by_cases g3 : s (i + 1) = 94
            · -- he climbs
              have e2 : aw_rm (s (i + 1)) 1 = 2 := by unfold aw_rm; rw [if_neg (by decide), if_neg g2, if_neg (by decide), if_pos g3]
              rw [e2] at hfp
              match d, hd, hi, hfp with
              | 0, hd, hi, hfp => exact absurd (aw_fp_0 (by omega) hfp) (by omega)
              | d + 1, hd, hi, hfp =>
                obtain ⟨h3'', hfp⟩ := aw_fp_1 (by omega) (by omega) hfp
                have g4 : 48 ≤ s (i + 1 + 1) ∧ s (i + 1 + 1) ≤ 55 := by
                  refine Classical.byContradiction fun z => h3'' ?_
                  unfold aw_rm
                  rw [if_neg (by decide), if_neg z, if_pos rfl]
                have e3 : aw_rm (s (i + 1 + 1)) 2 = 0 := by unfold aw_rm; rw [if_neg (by decide), if_pos g4]
                rw [e3] at hfp
                have hs5 : R 36 (i + 1 + 1) = s (i + 1 + 1) := hS.2.2.1 (i + 1 + 1) (by omega)
                have hs6 : A 8 (i + 1 + 1) = s (i + 1 + 1) := hS.2.2.2 (i + 1 + 1) (by omega)
                have ep1 : am_rg 60 (R 36) (nI (i + 1 + 1) - 1) = s (i + 1) := by rw [nI_pred, am_rg_nI (by omega) (by omega), hs3]
                have ep2 : am_rg 60 (R 36) (nI (i + 1 + 1) - 2) = s i := by
                  rw [show nI (i + 1 + 1) - 2 = nI (i + 1 + 1 - 2) from pk_sub (b := 2) (by omega), show i + 1 + 1 - 2 = i by omega, am_rg_nI (by omega) (by omega), hs1]
                obtain ⟨w, hw, ew⟩ := aw_sgw g4
                have nc := aw_no (c := 120) (d := 122) g4 (by decide)
                have n1 := aw_no (c := 65) (d := 71) g4 (by decide)
                have n94'' : ¬ s (i + 1 + 1) = 94 := aw_ne g4 (Or.inl (by decide))
                have ekd : aw_kd (R 36 (i + 1 + 1)) (am_rg 60 (R 36) (nI (i + 1 + 1) - 1)) = 1 := by
                  unfold aw_kd
                  rw [hs5, ep1, if_neg (aw_ne g4 (Or.inr (by decide))), if_neg (aw_ne g4 (Or.inr (by decide))), if_neg nc, if_pos g3]
                have ck2 : ∀ (A : Nat → Nat → Int32) (Y : Nat → Int32) (y4 : Option Value), am_E X AM_X3_tellYears 18 [some (.ref 23), some (.ref 20), some (.ref 1), some (.int (nI (i + 1))), y4] [] (am_WH R Z A Y) = am_E X AM_X3_tellYears 18 [some (.ref 23), some (.ref 20), some (.ref 1), some (.int (nI (i + 1 + 1))), y4] [] (am_WH R Z A Y) := fun A Y y4 => c_skip X R Z A Y hn (by omega) hS.1 t30 (by rw [hs3]; exact fun z => z.2 g3) y4
                refine l_step X (e := i + 1 + 1) (by omega) (by omega) (by omega) hn hS hT hf hm (act_climb X hTL (by omega) (s i - 65) hw) (fun r R1 Z1 hr A Y y4 => ?_) (fun r A1 Y1 hQ hr0 hy8 => ⟨am_up Y1 8 r, fun j hj => am_up_n _ _ hj, am_up_s _ _ _, fun R Z y2 y3 y4 => ⟨s i, some (.int (s (i + 1))), ?_⟩⟩) (fun R Z A Y f m hS hT hf hm => ih d (by omega) (i + 1 + 1 + 1) (by omega) hfp R Z A Y f m hS hT hf hm)
                · rw [ck A Y y4, ck2 A Y y4]
                  exact c_act X R Z hn (by omega) hS.1 t30 (by rw [hs5]; exact ⟨n1, n94''⟩) ekd (by rw [ekd, if_pos rfl, ep2]) (by rw [hs5, if_neg nc, ew]) r R1 Z1 hr A Y y4
                · rw [mk R Z y2 y3 y4, if_pos g3, b_X6_goYears_84, nI_1, if_pos (am_in_nI (by omega) (by omega)), am_cl (by omega), hs6, b_X6_goYears_99, ew, hQ, am_C_v, b_X6_goYears_105]
                  by_cases gr : r = 0
                  · rw [if_pos gr, if_pos ((m_le hr0).mpr gr)]
                  · rw [if_neg gr, if_neg (fun z => gr ((m_le hr0).mp z)), b_X6_goYears_158]
            · -- he is converted
              have g4 : 120 ≤ s (i + 1) ∧ s (i + 1) ≤ 122 := by
                refine Classical.byContradiction fun z => h3' ?_
                unfold aw_rm
                rw [if_neg (by decide), if_neg g2, if_neg (by decide), if_neg g3, if_neg z]
              have e2 : aw_rm (s (i + 1)) 1 = 0 := by unfold aw_rm; rw [if_neg (by decide), if_neg g2, if_neg (by decide), if_neg g3, if_pos g4]
              rw [e2] at hfp
              obtain ⟨c, hc, ec⟩ := aw_sgc g4
              have n1 := aw_no2 (c := 65) (d := 71) g4 (by decide)
              have ekd : aw_kd (R 36 (i + 1)) (am_rg 60 (R 36) (nI (i + 1) - 1)) = 2 := by
                unfold aw_kd
                rw [hs3, if_neg (aw_ne g4 (Or.inr (by decide))), if_neg (aw_ne g4 (Or.inr (by decide))), if_pos g4]
              refine l_step X (e := i + 1) (by omega) (by omega) (by omega) hn hS hT hf hm (act_convert X hTL (s i - 65) hc) (fun r R1 Z1 hr A Y y4 => ?_) (fun r A1 Y1 hQ hr0 hy8 => ⟨am_up Y1 8 r, fun j hj => am_up_n _ _ hj, am_up_s _ _ _, fun R Z y2 y3 y4 => ⟨s i, some (.int (s (i + 1))), ?_⟩⟩) (fun R Z A Y f m hS hT hf hm => ih d (by omega) (i + 1 + 1) (by omega) hfp R Z A Y f m hS hT hf hm)
              · rw [ck A Y y4]
                exact c_act X R Z hn (by omega) hS.1 t30 (by rw [hs3]; exact ⟨n1, g3⟩) ekd (by rw [ekd, if_neg (by decide), ep]) (by rw [hs3, if_pos g4, ec]) r R1 Z1 hr A Y y4
              · rw [mk R Z y2 y3 y4, if_neg g3, b_X6_goYears_111, if_neg (show ¬ s (i + 1) < 120 from Int32.not_lt.mpr g4.1), b_X6_goYears_119, ec, hQ, am_C_v, b_X6_goYears_132]
                by_cases gr : r = 0
                · rw [if_pos gr, if_pos ((m_le hr0).mpr gr)]
                · rw [if_neg gr, if_neg (fun z => gr ((m_le hr0).mp z)), b_X6_goYears_158]
      · have g2 : s i = 42 ∨ s i = 46 := by
          refine Classical.byContradiction fun z => h3 ?_
          unfold aw_rm
          rw [if_pos rfl, if_neg g1, if_neg z]
        have e1 : aw_rm (s i) 0 = 0 := by unfold aw_rm; rw [if_pos rfl, if_neg g1, if_pos g2]
        rw [e1] at hfp
        by_cases g3 : s i = 42
        · -- a quake
          have ekd : aw_kd (R 36 i) (am_rg 60 (R 36) (nI i - 1)) = 3 := by
            unfold aw_kd
            rw [hs1, if_pos g3]
          refine l_step X (e := i) (by omega) (by omega) (by omega) hn hS hT hf hm (act_quake X hTL (am_rg 60 (R 36) (nI i - 1) - 65) (s i - 48)) (fun r R1 Z1 hr A Y y4 => ?_) (fun r A1 Y1 hQ hr0 hy8 => ⟨Y1, fun j hj => rfl, hy8.trans hQ.1.symm, fun R Z y2 y3 y4 => ⟨s i, y4, ?_⟩⟩) (fun R Z A Y f m hS hT hf hm => ih d (by omega) (i + 1) (by omega) hfp R Z A Y f m hS hT hf hm)
          · exact c_act X R Z hn (by omega) hS.1 t30 (by rw [hs1, g3]; exact ⟨by decide, by decide⟩) ekd (by rw [ekd, if_neg (by decide)]) (by rw [hs1, if_neg (by rw [g3]; decide)]) r R1 Z1 hr A Y y4
          · rw [m_start X R Z A Y hn (by omega) hS.2.1 h5, hs2, if_neg (by rw [g3]; decide), b_X6_goYears_53, if_pos g3, b_X6_goYears_59, hQ.2, am_C_0, b_X6_goYears_63, hy8, if_pos (Int32.le_refl _), if_pos hQ.1]
        · -- the year ends
          have g4 : s i = 46 := g2.resolve_left g3
          have ekd : aw_kd (R 36 i) (am_rg 60 (R 36) (nI i - 1)) = 4 := by
            unfold aw_kd
            rw [hs1, if_neg g3, if_pos g4]
          refine l_step X (e := i) (by omega) (by omega) (by omega) hn hS hT hf hm (act_endYear X hTL (am_rg 60 (R 36) (nI i - 1) - 65) (s i - 48)) (fun r R1 Z1 hr A Y y4 => ?_) (fun r A1 Y1 hQ hr0 hy8 => ⟨am_up Y1 8 r, fun j hj => am_up_n _ _ hj, am_up_s _ _ _, fun R Z y2 y3 y4 => ⟨s i, y4, ?_⟩⟩) (fun R Z A Y f m hS hT hf hm => ih d (by omega) (i + 1) (by omega) hfp R Z A Y f m hS hT hf hm)
          · exact c_act X R Z hn (by omega) hS.1 t30 (by rw [hs1, g4]; exact ⟨by decide, by decide⟩) ekd (by rw [ekd, if_neg (by decide)]) (by rw [hs1, if_neg (by rw [g4]; decide)]) r R1 Z1 hr A Y y4
          · rw [m_start X R Z A Y hn (by omega) hS.2.1 h5, hs2, if_pos g4, b_X6_goYears_42, hQ, am_C_v, b_X6_goYears_47]
            by_cases gr : r = 0
            · rw [if_pos gr, if_pos ((m_le hr0).mpr gr)]
            · rw [if_neg gr, if_neg (fun z => gr ((m_le hr0).mp z)), b_X6_goYears_158]
