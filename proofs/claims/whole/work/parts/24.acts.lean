/-! acts: what stands behind them, of both. -/
/-- what is told (the class's outcome) and the reference's rows belong together -/
def am_OV (R : Nat → Nat → Int32) (Z : Nat → Int32) (A : Nat → Nat → Int32) (Y : Nat → Int32) : Prop := ∀ i, am_VR (fun j => R (9 + j)) (fun j => Z (7 + j)) (A 1) (A 2) (A 3) (A 4) (A 5) (A 6) (A 7) (Y 1) (Y 0) (Y 2) (Y 3) i
/-- and who fell first, how many -/
def am_TL (R : Nat → Nat → Int32) (Z : Nat → Int32) (A : Nat → Nat → Int32) (Y : Nat → Int32) (f : Nat) : Prop := am_OV R Z A Y ∧ Z 34 = nI f ∧ Y 5 = nI f ∧ Z 33 = Y 7
/-- what telling leaves alone -/
def am_kp (R : Nat → Nat → Int32) (Z : Nat → Int32) (A : Nat → Nat → Int32) (Y : Nat → Int32) (R' : Nat → Nat → Int32) (Z' : Nat → Int32) (A' : Nat → Nat → Int32) (Y' : Nat → Int32) : Prop := (∀ j, j < 9 ∨ 18 ≤ j → R' j = R j) ∧ (∀ j, j < 7 ∨ (14 ≤ j ∧ j < 29) ∨ 35 ≤ j → Z' j = Z j) ∧ (∀ j, j ≠ 1 → A' j = A j) ∧ (∀ j, j < 5 → Y' j = Y j)
theorem am_kp_refl (R : Nat → Nat → Int32) (Z : Nat → Int32) (A : Nat → Nat → Int32) (Y : Nat → Int32) : am_kp R Z A Y R Z A Y := ⟨fun _ _ => rfl, fun _ _ => rfl, fun _ _ => rfl, fun _ _ => rfl⟩
theorem am_kp_trans {R R1 R2 : Nat → Nat → Int32} {Z Z1 Z2 : Nat → Int32} {A A1 A2 : Nat → Nat → Int32} {Y Y1 Y2 : Nat → Int32} (h1 : am_kp R Z A Y R1 Z1 A1 Y1) (h2 : am_kp R1 Z1 A1 Y1 R2 Z2 A2 Y2) : am_kp R Z A Y R2 Z2 A2 Y2 := ⟨fun j hj => (h2.1 j hj).trans (h1.1 j hj), fun j hj => (h2.2.1 j hj).trans (h1.2.1 j hj), fun j hj => (h2.2.2.1 j hj).trans (h1.2.2.1 j hj), fun j hj => (h2.2.2.2 j hj).trans (h1.2.2.2 j hj)⟩
theorem am_kp_INV {R R' : Nat → Nat → Int32} {Z Z' : Nat → Int32} {A A' : Nat → Nat → Int32} {Y Y' : Nat → Int32} (h : am_kp R Z A Y R' Z' A' Y') (hI : am_INV R Z A Y) : am_INV R' Z' A' Y' := am_INV_congr (fun j hj => h.1 j (by omega)) (fun j hj => h.2.1 j (by omega)) (fun j h1 _ _ _ => h.2.2.1 j h1) (fun j hj => h.2.2.2 j hj) hI
/-- an act, told by the class; Q says what the reference makes of it -/
def am_AC (X : AMx) (R : Nat → Nat → Int32) (Z : Nat → Int32) (A : Nat → Nat → Int32) (Y : Nat → Int32) (f : Nat) (kd a t : Int32) (Q : Int32 → (Nat → Nat → Int32) → (Nat → Int32) → Prop) : Prop := ∃ (r : Int32) (R' : Nat → Nat → Int32) (Z' : Nat → Int32) (A' : Nat → Nat → Int32) (Y' : Nat → Int32) (f' : Nat), am_TL R' Z' A' Y' f' ∧ am_kp R Z A Y R' Z' A' Y' ∧ (Z' 30 = Z 30 ∧ Z' 31 = Z 31 ∧ Y' 6 = Y 6 ∧ Y' 8 = Y 8 ∧ Y' 9 = Y 9) ∧ ((0 < r ∧ f' = f ∧ Z' 29 = Z 29 ∧ Z' 32 = Z 32) ∨ (r = 0 ∧ Z' 29 = Z 29 + 1 ∧ ((f' = f ∧ Z' 32 = Z 32) ∨ (f' = f + 1 ∧ Z' 32 = if f = 0 then Z 29 else Z 32)))) ∧ (∀ (A : Nat → Nat → Int32) (Y : Nat → Int32), am_D X 28 [.ref 23, .int kd, .int a, .int t] (am_WH R Z A Y) = some (some (.int r), am_WH R' Z' A Y)) ∧ Q r A' Y'
theorem s_tellAct_r (X : AMx) {R : Nat → Nat → Int32} {Z : Nat → Int32} {kd a t r : Int32} (h1 : ∀ (A : Nat → Nat → Int32) (Y : Nat → Int32), am_D X 44 [.ref 24, .int kd, .int a, .int t] (am_WH R Z A Y) = some (some (.int r), am_WH R Z A Y)) (hr : ¬ r = 0) : ∀ (A : Nat → Nat → Int32) (Y : Nat → Int32), am_D X 28 [.ref 23, .int kd, .int a, .int t] (am_WH R Z A Y) = some (some (.int r), am_WH R Z A Y) := by
  intro A Y
  rw [d_X3_tellAct, b_X3_tellAct_0, h1, am_C_v, b_X3_tellAct_10, if_neg hr, b_X3_tellAct_17]
theorem s_tellAct_0 (X : AMx) {R R' : Nat → Nat → Int32} {Z Z' : Nat → Int32} {kd a t : Int32} (h1 : ∀ (A : Nat → Nat → Int32) (Y : Nat → Int32), am_D X 44 [.ref 24, .int kd, .int a, .int t] (am_WH R Z A Y) = some (some (.int 0), am_WH R Z A Y)) (h2 : ∀ (A : Nat → Nat → Int32) (Y : Nat → Int32), am_D X 45 [.ref 24, .int kd, .int a, .int t] (am_WH R Z A Y) = some (some (.int 0), am_WH R' Z' A Y)) : ∀ (A : Nat → Nat → Int32) (Y : Nat → Int32), am_D X 28 [.ref 23, .int kd, .int a, .int t] (am_WH R Z A Y) = some (some (.int 0), am_WH R' (am_up Z' 29 (Z' 29 + 1)) A Y) := by
  intro A Y
  rw [d_X3_tellAct, b_X3_tellAct_0, h1, am_C_v, b_X3_tellAct_10, if_pos rfl, b_X3_tellAct_20, h2, am_C_v, b_X3_tellAct_30, if_pos rfl, b_X3_tellAct_63]
theorem s_tellAct_1 (X : AMx) {R R' : Nat → Nat → Int32} {Z Z' : Nat → Int32} {kd a t : Int32} (h1 : ∀ (A : Nat → Nat → Int32) (Y : Nat → Int32), am_D X 44 [.ref 24, .int kd, .int a, .int t] (am_WH R Z A Y) = some (some (.int 0), am_WH R Z A Y)) (h2 : ∀ (A : Nat → Nat → Int32) (Y : Nat → Int32), am_D X 45 [.ref 24, .int kd, .int a, .int t] (am_WH R Z A Y) = some (some (.int 1), am_WH R' Z' A Y)) : ∀ (A : Nat → Nat → Int32) (Y : Nat → Int32), am_D X 28 [.ref 23, .int kd, .int a, .int t] (am_WH R Z A Y) = some (some (.int 0), am_WH R' (if Z' 34 = 0 then am_up (am_up (am_up (am_up Z' 32 (Z' 29)) 33 a) 34 (Z' 34 + 1)) 29 (Z' 29 + 1) else am_up (am_up Z' 34 (Z' 34 + 1)) 29 (Z' 29 + 1)) A Y) := by
  intro A Y
  rw [d_X3_tellAct, b_X3_tellAct_0, h1, am_C_v, b_X3_tellAct_10, if_pos rfl, b_X3_tellAct_20, h2, am_C_v, b_X3_tellAct_30, if_neg (by decide), b_X3_tellAct_33]
  by_cases g : Z' 34 = 0
  · rw [if_pos g, if_pos g, b_X3_tellAct_40]
  · rw [if_neg g, if_neg g, b_X3_tellAct_53]
/-- who is there, in what is told -/
theorem am_there2 {R : Nat → Nat → Int32} {Z : Nat → Int32} {A : Nat → Nat → Int32} {Y : Nat → Int32} (h : am_OV R Z A Y) (a : Int32) : (am_hs (Z 8) a ↔ ∃ j, j < 7 ∧ a = nI j ∧ bt (Z 8) j = true) ∧ (((0 ≤ a ∧ a ≤ 6) ∧ (Y 0 >>> (a &&& 31)) &&& 1 = 1) ↔ ∃ j, j < 7 ∧ a = nI j ∧ bt (Z 8) j = true) := by
  have v1 : Z 8 = Y 0 ∧ am_rn (Z 8) 0 127 := am_V1 h
  refine ⟨am_hs_bt v1.2 (k := 7) (by omega) (by omega) a, ?_⟩
  rw [v1.1]
  exact am_mh_bt (b := Y 0) (k := 7) (by omega) (m := 6) (by decide) a
theorem am_TL_keep {R : Nat → Nat → Int32} {Z : Nat → Int32} {A : Nat → Nat → Int32} {Y : Nat → Int32} {f : Nat} (h : am_TL R Z A Y f) (x : Int32) : am_TL R (am_up Z 29 x) A Y f := ⟨(am_VR_mk (have q := am_V0 h.1; q) (have q := am_V1 h.1; q) (have q := am_V2 h.1; q) (have q := am_V3 h.1; q) (have q := am_V4 h.1; q) (have q := am_V5 h.1; q) (have q := am_V6 h.1; q) (have q := am_V7 h.1; q) (have q := am_V8 h.1; q) (have q := am_V9 h.1; q) (have q := am_V10 h.1; q) (have q := am_V11 h.1; q) (have q := am_V12 h.1; q) (have q := am_V13 h.1; q) (have q := am_V14 h.1; q) (have q := am_V15 h.1; q)), h.2.1, h.2.2.1, h.2.2.2⟩
theorem am_pos_ne {r : Int32} (h : 0 < r) : ¬ r = 0 := fun z => by rw [z] at h; exact absurd h (by decide)
/-- an act that can not be -/
theorem am_AC_no (X : AMx) {R : Nat → Nat → Int32} {Z : Nat → Int32} {A : Nat → Nat → Int32} {Y : Nat → Int32} {f : Nat} (h : am_TL R Z A Y f) {kd a t : Int32} {Q : Int32 → (Nat → Nat → Int32) → (Nat → Int32) → Prop} (r : Int32) (hr : 0 < r) (h1 : ∀ (A : Nat → Nat → Int32) (Y : Nat → Int32), am_D X 44 [.ref 24, .int kd, .int a, .int t] (am_WH R Z A Y) = some (some (.int r), am_WH R Z A Y)) (hQ : Q r A Y) : am_AC X R Z A Y f kd a t Q :=
  ⟨r, R, Z, A, Y, f, h, am_kp_refl R Z A Y, ⟨rfl, rfl, rfl, rfl, rfl⟩, Or.inl ⟨hr, rfl, rfl, rfl⟩, s_tellAct_r X h1 (am_pos_ne hr), hQ⟩
/-- an act by which nobody falls -/
theorem am_AC_yes (X : AMx) {R R' : Nat → Nat → Int32} {Z Z' : Nat → Int32} {A A' : Nat → Nat → Int32} {Y Y' : Nat → Int32} {f : Nat} (h : am_TL R' Z' A' Y' f) {kd a t : Int32} {Q : Int32 → (Nat → Nat → Int32) → (Nat → Int32) → Prop} (hf : am_kp R Z A Y R' Z' A' Y') (hz : ∀ j, 29 ≤ j → j < 33 → Z' j = Z j) (hy : Y' 6 = Y 6 ∧ Y' 8 = Y 8 ∧ Y' 9 = Y 9) (h1 : ∀ (A : Nat → Nat → Int32) (Y : Nat → Int32), am_D X 44 [.ref 24, .int kd, .int a, .int t] (am_WH R Z A Y) = some (some (.int 0), am_WH R Z A Y)) (h2 : ∀ (A : Nat → Nat → Int32) (Y : Nat → Int32), am_D X 45 [.ref 24, .int kd, .int a, .int t] (am_WH R Z A Y) = some (some (.int 0), am_WH R' Z' A Y)) (hQ : Q 0 A' Y') : am_AC X R Z A Y f kd a t Q :=
  ⟨0, R', am_up Z' 29 (Z' 29 + 1), A', Y', f, am_TL_keep h _, ⟨hf.1, fun j hj => (am_up_n _ _ (by omega)).trans (hf.2.1 j hj), hf.2.2.1, hf.2.2.2⟩, ⟨hz 30 (by omega) (by omega), hz 31 (by omega) (by omega), hy.1, hy.2.1, hy.2.2⟩, Or.inr ⟨rfl, (am_up_s _ _ _).trans (by rw [hz 29 (by omega) (by omega)]), Or.inl ⟨rfl, hz 32 (by omega) (by omega)⟩⟩, s_tellAct_0 X h1 h2, hQ⟩
/-! building -/
theorem act_build (X : AMx) {R : Nat → Nat → Int32} {Z : Nat → Int32} {A : Nat → Nat → Int32} {Y : Nat → Int32} {f : Nat} (h : am_TL R Z A Y f) (a : Int32) {w : Nat} (hw : w < 8) : am_AC X R Z A Y f 0 a (nI w) (fun r A' Y' => ∀ (R : Nat → Nat → Int32) (Z : Nat → Int32), am_D X 116 [.ref 88, .int a, .int (nI w)] (am_WH R Z A Y) = some (some (.int r), am_WH R Z A' Y')) := by
  have v2 : Z 9 = A 1 30 ∧ am_rn (Z 9) 0 255 := am_V2 h.1
  have v4 : Z 11 = A 1 31 ∧ am_rn (Z 11) 0 99 := am_V4 h.1
  have v7 : ∀ i, i < 3 → R 9 i = A 2 i ∧ am_rn (R 9 i) (-9) 9 := am_V7 h.1
  have v8 : ∀ i, i < 7 → R 10 i = A 1 i ∧ am_rn (R 10 i) 0 2 := am_V8 h.1
  have v9 : ∀ i, i < 7 → R 11 i = A 1 (7 + i) ∧ am_rn (R 11 i) 0 9 := am_V9 h.1
  have v11 : ∀ i, i < 8 → R 13 i = A 1 (14 + i) ∧ am_rn (R 13 i) (-9) 9 := am_V11 h.1
  have v12 : ∀ i, i < 8 → R 14 i = A 1 (22 + i) ∧ am_rn (R 14 i) 0 2 := am_V12 h.1
  obtain ⟨q1, q2⟩ := am_there2 h.1 a
  by_cases ht : ∃ j, j < 7 ∧ a = nI j ∧ bt (Z 8) j = true
  · have h1 := q1.mpr ht
    have h2 := q2.mpr ht
    obtain ⟨k, hk, rfl, hb⟩ := ht
    by_cases h9 : R 11 k < 9
    · have m9 : ¬ A 1 (7 + k) = 9 := fun z => by rw [(v9 k hk).1, z] at h9; exact absurd h9 (by decide)
      have hr : ∀ (A : Nat → Nat → Int32) (Y : Nat → Int32), am_D X 44 [.ref 24, .int 0, .int (nI k), .int (nI w)] (am_WH R Z A Y) = some (some (.int 0), am_WH R Z A Y) := fun A Y => by
        rw [d_X4_reasonAgainst_24, b_X4_reasonAgainst_24_0, if_neg (by decide), b_X4_reasonAgainst_24_7, if_neg (by decide), b_X4_reasonAgainst_24_27, s_isThere2, am_C_v, am_bI_t h1, b_X4_reasonAgainst_24_32, if_neg (by decide), b_X4_reasonAgainst_24_37, if_neg (by decide), b_X4_reasonAgainst_24_56, if_neg (by decide), b_X4_reasonAgainst_24_79, d_X1_get_29, am_rg_nI hk (by omega), am_C_v, b_X4_reasonAgainst_24_87, if_pos h9, b_X4_reasonAgainst_24_96]
      have hdn := am_dw_rn (k := k) (v8 k hk).2 (fun c hc => (v7 c hc).2)
      have edw : am_dw (R 9) (R 10) k = am_dw (A 2) (A 1) k := am_dw_eq v7 (v8 k hk)
      obtain ⟨l, el⟩ : ∃ l, l = am_dw (R 9) (R 10) k := ⟨_, rfl⟩
      obtain ⟨c, ec⟩ : ∃ c, c = R 10 k := ⟨_, rfl⟩
      obtain ⟨W, eW⟩ : ∃ W, W = Z 9 ||| ((1 : Int32) <<< (nI w &&& 31)) := ⟨_, rfl⟩
      have hW : am_rn W 0 255 := by
        rw [eW]
        exact b_rn (k := 8) (by omega) (fun j h7 h32 => by
          rw [b_or, b_bit w (by omega) h32, am_rnb v2.2 (k := 8) (by omega) h7]
          simp; omega)
      have hl : am_rn l (-9) 9 := by rw [el]; exact hdn
      have hc : am_rn c 0 2 := by rw [ec]; exact (v8 k hk).2
      have he : ∀ (A : Nat → Nat → Int32) (Y : Nat → Int32), am_D X 45 [.ref 24, .int 0, .int (nI k), .int (nI w)] (am_WH R Z A Y) = some (some (.int 0), am_WH (am_up (am_up R 13 (upd (R 13) w l)) 14 (upd (R 14) w c)) (am_up Z 9 W) A Y) := fun A Y => by
        rw [d_X4_enact_24, b_X4_enact_24_0, if_pos rfl, b_X4_enact_24_32, d_X4_build_24, b_X4_build_24_0, s_downFor_24 X R _ A Y hk (v8 k hk).2, am_C_v, b_X4_build_24_22, d_X1_set_33, am_rs_nI hw (by omega), am_C_0, b_X4_build_24_25, d_X1_get_27, am_rg_nI hk (by omega), am_C_v, b_X4_build_24_38, d_X1_set_35, am_rs_nI hw (by omega), am_C_0, b_X4_build_24_41, am_C_0, b_X4_enact_24_38, el, ec, eW]
        rfl
      refine am_AC_yes X (R' := am_up (am_up R 13 (upd (R 13) w l)) 14 (upd (R 14) w c)) (Z' := am_up Z 9 W) (A' := am_up A 1 (upd (upd (upd (A 1) (14 + w) l) (22 + w) c) 30 W)) (Y' := Y) ⟨?_, h.2.1, h.2.2.1, h.2.2.2⟩ ⟨fun j hj => by rw [am_up_n _ _ (by omega), am_up_n _ _ (by omega)], fun j hj => am_up_n _ _ (by omega), fun j hj => am_up_n _ _ hj, fun _ _ => rfl⟩ (fun j h1 h2 => am_up_n _ _ (by omega)) ⟨rfl, rfl, rfl⟩ hr he ?_
      · have w2 : W = upd (upd (upd (A 1) (14 + w) l) (22 + w) c) 30 W 30 ∧ am_rn W 0 255 := ⟨(upd_s _ _ _).symm, hW⟩
        have w4 : Z 11 = upd (upd (upd (A 1) (14 + w) l) (22 + w) c) 30 W 31 ∧ am_rn (Z 11) 0 99 := ⟨by rw [upd_n _ _ (by omega), upd_n _ _ (by omega), upd_n _ _ (by omega)]; exact v4.1, v4.2⟩
        have w8 := am_row_no0 (am_row_no0 (am_row_no0 v8 (k := 14 + w) l (by omega)) (k := 22 + w) c (by omega)) (k := 30) W (by omega)
        have w9 := am_row_no 7 (am_row_no 7 (am_row_no 7 v9 (k := 14 + w) l (by omega)) (k := 22 + w) c (by omega)) (k := 30) W (by omega)
        have w11 := am_row_no 14 (am_row_no 14 (am_row_upo 14 v11 w hl) (k := 22 + w) c (by omega)) (k := 30) W (by omega)
        have w12 := am_row_no 22 (am_row_upo 22 (am_row_no 22 v12 (k := 14 + w) l (by omega)) w hc) (k := 30) W (by omega)
        exact (am_VR_mk (have q := am_V0 h.1; q) (have q := am_V1 h.1; q) (w2) (have q := am_V3 h.1; q) (w4) (have q := am_V5 h.1; q) (have q := am_V6 h.1; q) (have q := am_V7 h.1; q) (w8) (w9) (have q := am_V10 h.1; q) (w11) (w12) (have q := am_V13 h.1; q) (have q := am_V14 h.1; q) (have q := am_V15 h.1; q))
      · intro R Z
        obtain ⟨ci, hci, eci⟩ := am_rn_ix hc (n := 3) (by omega) (by omega)
        have ek : A 1 k = nI ci := (v8 k hk).1.symm.trans (ec.symm.trans eci)
        have el2 : A 2 ci = l := by
          rw [el, edw]
          unfold am_dw
          rw [ek, am_cl (by omega)]
        rw [d_X6_build, b_X6_build_0, s_misThere, am_C_v, am_bI_t h2, b_X6_build_5, if_neg (by decide), b_X6_build_10, am_a7, if_pos (am_in_nI (by omega) (by omega)), am_cl (by omega), b_X6_build_19, if_neg m9, b_X6_build_26, if_pos (am_in_nI (by omega) (by omega)), am_cl (by omega), b_X6_build_44, ek, if_pos (am_in_nI hci (by omega)), am_cl (by omega), el2, b_X6_build_45, am_a14, if_pos (am_in_nI (by omega) (by omega)), am_cl (by omega), b_X6_build_46, if_pos (am_in_nI (by omega) (by omega)), am_cl (by omega), am_up_s, upd_n _ _ (by omega), ek, b_X6_build_60, am_a22, if_pos (am_in_nI (by omega) (by omega)), am_cl (by omega), am_up_s, am_uu, b_X6_build_61, if_pos (show am_in (30 : Int32) 32 by decide), show (30 : Int32).toNatClampNeg = 30 from rfl, am_up_s, b_X6_build_69, if_pos (show am_in (30 : Int32) 32 by decide), show (30 : Int32).toNatClampNeg = 30 from rfl, am_up_s, am_uu, b_X6_build_74, upd_n _ _ (by omega), upd_n _ _ (by omega), ← v2.1, ← eW, ← eci]
    · have m9 : A 1 (7 + k) = 9 := by
        rw [← (v9 k hk).1]
        have := (v9 k hk).2
        rw [Int32.lt_iff_toInt_lt] at h9
        have e9 : (9 : Int32).toInt = 9 := rfl
        exact Int32.toInt_inj.mp (by omega)
      refine am_AC_no X h 4 (by decide) (fun A Y => ?_) (fun R Z => ?_)
      · rw [d_X4_reasonAgainst_24, b_X4_reasonAgainst_24_0, if_neg (by decide), b_X4_reasonAgainst_24_7, if_neg (by decide), b_X4_reasonAgainst_24_27, s_isThere2, am_C_v, am_bI_t h1, b_X4_reasonAgainst_24_32, if_neg (by decide), b_X4_reasonAgainst_24_37, if_neg (by decide), b_X4_reasonAgainst_24_56, if_neg (by decide), b_X4_reasonAgainst_24_79, d_X1_get_29, am_rg_nI hk (by omega), am_C_v, b_X4_reasonAgainst_24_87, if_neg h9, b_X4_reasonAgainst_24_92]
      · rw [d_X6_build, b_X6_build_0, s_misThere, am_C_v, am_bI_t h2, b_X6_build_5, if_neg (by decide), b_X6_build_10, am_a7, if_pos (am_in_nI (by omega) (by omega)), am_cl (by omega), b_X6_build_19, if_pos m9, b_X6_build_24]
  · have h1 := fun z => ht (q1.mp z)
    have h2 := fun z => ht (q2.mp z)
    refine am_AC_no X h 1 (by decide) (fun A Y => ?_) (fun R Z => ?_)
    · rw [d_X4_reasonAgainst_24, b_X4_reasonAgainst_24_0, if_neg (by decide), b_X4_reasonAgainst_24_7, if_neg (by decide), b_X4_reasonAgainst_24_27, s_isThere2, am_C_v, am_bI_f h1, b_X4_reasonAgainst_24_32, if_pos rfl, b_X4_reasonAgainst_24_35]
    · rw [d_X6_build, b_X6_build_0, s_misThere, am_C_v, am_bI_f h2, b_X6_build_5, if_pos rfl, b_X6_build_8]
