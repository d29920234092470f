/-! acts: converts, the year's end, quakes, climbers. -/
theorem act_convert (X : AMx) {R : Nat → Nat → Int32} {Z : Nat → Int32} {A : Nat → Nat → Int32} {Y : Nat → Int32} {f : Nat} (h : am_TL R Z A Y f) (a : Int32) {c : Nat} (hc : c < 3) : am_AC X R Z A Y f 2 a (nI c) (fun r A' Y' => ∀ (R : Nat → Nat → Int32) (Z : Nat → Int32), am_D X 118 [.ref 88, .int a, .int (nI c)] (am_WH R Z A Y) = some (some (.int r), am_WH R Z A' Y')) := by
  have v2 : Z 9 = A 1 30 ∧ am_rn (Z 9) 0 255 := am_V2 h.1
  have v4 : Z 11 = A 1 31 ∧ am_rn (Z 11) 0 99 := am_V4 h.1
  have v8 : ∀ i, i < 7 → R 10 i = A 1 i ∧ am_rn (R 10 i) 0 2 := am_V8 h.1
  have v9 : ∀ i, i < 7 → R 11 i = A 1 (7 + i) ∧ am_rn (R 11 i) 0 9 := am_V9 h.1
  have v11 : ∀ i, i < 8 → R 13 i = A 1 (14 + i) ∧ am_rn (R 13 i) (-9) 9 := am_V11 h.1
  have v12 : ∀ i, i < 8 → R 14 i = A 1 (22 + i) ∧ am_rn (R 14 i) 0 2 := am_V12 h.1
  obtain ⟨q1, q2⟩ := am_there2 h.1 a
  by_cases ht : ∃ j, j < 7 ∧ a = nI j ∧ bt (Z 8) j = true
  · have h1 := q1.mpr ht
    have h2 := q2.mpr ht
    obtain ⟨k, hk, rfl, hb⟩ := ht
    by_cases hs : R 10 k = nI c
    · have ms : A 1 k = nI c := (v8 k hk).1.symm.trans hs
      refine am_AC_no X h 3 (by decide) (fun A Y => ?_) (fun R Z => ?_)
      · rw [d_X4_reasonAgainst_24, b_X4_reasonAgainst_24_0, if_neg (by decide), b_X4_reasonAgainst_24_7, if_neg (by decide), b_X4_reasonAgainst_24_27, s_isThere2, am_C_v, am_bI_t h1, b_X4_reasonAgainst_24_32, if_neg (by decide), b_X4_reasonAgainst_24_37, if_neg (by decide), b_X4_reasonAgainst_24_56, if_pos rfl, b_X4_reasonAgainst_24_61, d_X1_get_27, am_rg_nI hk (by omega), am_C_v, b_X4_reasonAgainst_24_69, if_pos hs, b_X4_reasonAgainst_24_73]
      · rw [d_X6_convert, b_X6_convert_0, s_misThere, am_C_v, am_bI_t h2, b_X6_convert_5, if_neg (by decide), b_X6_convert_10, if_pos (am_in_nI (by omega) (by omega)), am_cl (by omega), b_X6_convert_16, if_pos ms, b_X6_convert_20]
    · have ms : ¬ A 1 k = nI c := fun z => hs ((v8 k hk).1.trans z)
      obtain ⟨C, eC⟩ : ∃ C, C = nI c := ⟨_, rfl⟩
      have hC : am_rn C 0 2 := by rw [eC]; exact ⟨by rw [nI_toInt (by omega)]; omega, by rw [nI_toInt (by omega)]; omega⟩
      have h5 : am_rn (5 : Int32) 0 9 := ⟨by decide, by decide⟩
      refine am_AC_yes X (R' := am_up (am_up R 10 (upd (R 10) k C)) 11 (upd (R 11) k 5)) (Z' := Z) (A' := am_up A 1 (upd (upd (A 1) k C) (7 + k) 5)) (Y' := Y) ⟨?_, h.2.1, h.2.2.1, h.2.2.2⟩ ⟨fun j hj => by rw [am_up_n _ _ (by omega), am_up_n _ _ (by omega)], fun _ _ => rfl, fun j hj => am_up_n _ _ hj, fun _ _ => rfl⟩ (fun _ _ _ => rfl) ⟨rfl, rfl, rfl⟩ (fun A Y => ?_) (fun A Y => ?_) ?_
      · have w2 : Z 9 = upd (upd (A 1) k C) (7 + k) 5 30 ∧ am_rn (Z 9) 0 255 := ⟨by rw [upd_n _ _ (by omega), upd_n _ _ (by omega)]; exact v2.1, v2.2⟩
        have w4 : Z 11 = upd (upd (A 1) k C) (7 + k) 5 31 ∧ am_rn (Z 11) 0 99 := ⟨by rw [upd_n _ _ (by omega), upd_n _ _ (by omega)]; exact v4.1, v4.2⟩
        have w8 := am_row_no0 (am_row_up v8 k hC) (k := 7 + k) 5 (by omega)
        have w9 := am_row_upo 7 (am_row_no 7 v9 (k := k) C (by omega)) k h5
        have w11 := am_row_no 14 (am_row_no 14 v11 (k := k) C (by omega)) (k := 7 + k) 5 (by omega)
        have w12 := am_row_no 22 (am_row_no 22 v12 (k := k) C (by omega)) (k := 7 + k) 5 (by omega)
        exact (am_VR_mk (have q := am_V0 h.1; q) (have q := am_V1 h.1; q) (w2) (have q := am_V3 h.1; q) (w4) (have q := am_V5 h.1; q) (have q := am_V6 h.1; q) (have q := am_V7 h.1; q) (w8) (w9) (have q := am_V10 h.1; q) (w11) (w12) (have q := am_V13 h.1; q) (have q := am_V14 h.1; q) (have q := am_V15 h.1; q))
      · rw [d_X4_reasonAgainst_24, b_X4_reasonAgainst_24_0, if_neg (by decide), b_X4_reasonAgainst_24_7, if_neg (by decide), b_X4_reasonAgainst_24_27, s_isThere2, am_C_v, am_bI_t h1, b_X4_reasonAgainst_24_32, if_neg (by decide), b_X4_reasonAgainst_24_37, if_neg (by decide), b_X4_reasonAgainst_24_56, if_pos rfl, b_X4_reasonAgainst_24_61, d_X1_get_27, am_rg_nI hk (by omega), am_C_v, b_X4_reasonAgainst_24_69, if_neg hs, b_X4_reasonAgainst_24_77]
      · rw [d_X4_enact_24, b_X4_enact_24_0, if_neg (by decide), if_neg (by decide), if_pos rfl, b_X4_enact_24_47, d_X1_set_27, am_rs_nI hk (by omega), am_C_0, b_X4_enact_24_56, d_X1_set_29, am_rs_nI hk (by omega), am_C_0, b_X4_enact_24_65, eC]
        rfl
      · intro R Z
        rw [d_X6_convert, b_X6_convert_0, s_misThere, am_C_v, am_bI_t h2, b_X6_convert_5, if_neg (by decide), b_X6_convert_10, if_pos (am_in_nI (by omega) (by omega)), am_cl (by omega), b_X6_convert_16, if_neg ms, b_X6_convert_22, if_pos (am_in_nI (by omega) (by omega)), am_cl (by omega), b_X6_convert_29, am_a7, if_pos (am_in_nI (by omega) (by omega)), am_cl (by omega), am_up_s, am_uu, b_X6_convert_39, eC]
  · have h1 := fun z => ht (q1.mp z)
    have h2 := fun z => ht (q2.mp z)
    refine am_AC_no X h 1 (by decide) (fun A Y => ?_) (fun R Z => ?_)
    · rw [d_X4_reasonAgainst_24, b_X4_reasonAgainst_24_0, if_neg (by decide), b_X4_reasonAgainst_24_7, if_neg (by decide), b_X4_reasonAgainst_24_27, s_isThere2, am_C_v, am_bI_f h1, b_X4_reasonAgainst_24_32, if_pos rfl, b_X4_reasonAgainst_24_35]
    · rw [d_X6_convert, b_X6_convert_0, s_misThere, am_C_v, am_bI_f h2, b_X6_convert_5, if_pos rfl, b_X6_convert_8]
/-- the year ends -/
theorem act_endYear (X : AMx) {R : Nat → Nat → Int32} {Z : Nat → Int32} {A : Nat → Nat → Int32} {Y : Nat → Int32} {f : Nat} (h : am_TL R Z A Y f) (a t : Int32) : am_AC X R Z A Y f 4 a t (fun r A' Y' => ∀ (R : Nat → Nat → Int32) (Z : Nat → Int32), am_D X 120 [.ref 88] (am_WH R Z A Y) = some (some (.int r), am_WH R Z A' Y')) := by
  have v2 : Z 9 = A 1 30 ∧ am_rn (Z 9) 0 255 := am_V2 h.1
  have v4 : Z 11 = A 1 31 ∧ am_rn (Z 11) 0 99 := am_V4 h.1
  have v8 : ∀ i, i < 7 → R 10 i = A 1 i ∧ am_rn (R 10 i) 0 2 := am_V8 h.1
  have v9 : ∀ i, i < 7 → R 11 i = A 1 (7 + i) ∧ am_rn (R 11 i) 0 9 := am_V9 h.1
  have v11 : ∀ i, i < 8 → R 13 i = A 1 (14 + i) ∧ am_rn (R 13 i) (-9) 9 := am_V11 h.1
  have v12 : ∀ i, i < 8 → R 14 i = A 1 (22 + i) ∧ am_rn (R 14 i) 0 2 := am_V12 h.1
  have e99 : (99 : Int32).toInt = 99 := rfl
  by_cases hy : Z 11 < 99
  · have my : ¬ A 1 31 = 99 := fun z => by rw [v4.1, z] at hy; exact absurd hy (by decide)
    obtain ⟨W, eW⟩ : ∃ W, W = Z 11 + 1 := ⟨_, rfl⟩
    have hW : am_rn W 0 99 := by
      rw [eW]
      rw [Int32.lt_iff_toInt_lt] at hy
      have := v4.2
      have e1 : (1 : Int32).toInt = 1 := rfl
      have e : (Z 11 + 1).toInt = (Z 11).toInt + 1 := am_add (by omega) (by omega)
      exact ⟨by omega, by omega⟩
    refine am_AC_yes X (R' := R) (Z' := am_up Z 11 W) (A' := am_up A 1 (upd (A 1) 31 W)) (Y' := Y) ⟨?_, h.2.1, h.2.2.1, h.2.2.2⟩ ⟨fun _ _ => rfl, fun j hj => am_up_n _ _ (by omega), fun j hj => am_up_n _ _ hj, fun _ _ => rfl⟩ (fun j _ _ => am_up_n _ _ (by omega)) ⟨rfl, rfl, rfl⟩ (fun A Y => ?_) (fun A Y => ?_) ?_
    · have w2 : Z 9 = upd (A 1) 31 W 30 ∧ am_rn (Z 9) 0 255 := ⟨by rw [upd_n _ _ (by omega)]; exact v2.1, v2.2⟩
      have w4 : W = upd (A 1) 31 W 31 ∧ am_rn W 0 99 := ⟨(upd_s _ _ _).symm, hW⟩
      have w8 := am_row_no0 v8 (k := 31) W (by omega)
      have w9 := am_row_no 7 v9 (k := 31) W (by omega)
      have w11 := am_row_no 14 v11 (k := 31) W (by omega)
      have w12 := am_row_no 22 v12 (k := 31) W (by omega)
      exact (am_VR_mk (have q := am_V0 h.1; q) (have q := am_V1 h.1; q) (w2) (have q := am_V3 h.1; q) (w4) (have q := am_V5 h.1; q) (have q := am_V6 h.1; q) (have q := am_V7 h.1; q) (w8) (w9) (have q := am_V10 h.1; q) (w11) (w12) (have q := am_V13 h.1; q) (have q := am_V14 h.1; q) (have q := am_V15 h.1; q))
    · rw [d_X4_reasonAgainst_24, b_X4_reasonAgainst_24_0, if_neg (by decide), b_X4_reasonAgainst_24_7, if_pos rfl, b_X4_reasonAgainst_24_12, if_pos hy, b_X4_reasonAgainst_24_25]
    · rw [d_X4_enact_24, b_X4_enact_24_0, if_neg (by decide), if_neg (by decide), if_neg (by decide), if_neg (by decide), b_X4_enact_24_73, eW]
    · intro R Z
      rw [d_X6_endYear, b_X6_endYear_0, if_pos (show am_in (31 : Int32) 32 by decide), show (31 : Int32).toNatClampNeg = 31 from rfl, b_X6_endYear_7, if_neg my, b_X6_endYear_14, if_pos (show am_in (31 : Int32) 32 by decide), show (31 : Int32).toNatClampNeg = 31 from rfl, b_X6_endYear_22, if_pos (show am_in (31 : Int32) 32 by decide), show (31 : Int32).toNatClampNeg = 31 from rfl, b_X6_endYear_25, ← v4.1, ← eW]
  · have my : A 1 31 = 99 := by
      rw [← v4.1]
      have := v4.2
      rw [Int32.lt_iff_toInt_lt] at hy
      exact Int32.toInt_inj.mp (by omega)
    refine am_AC_no X h 5 (by decide) (fun A Y => ?_) (fun R Z => ?_)
    · rw [d_X4_reasonAgainst_24, b_X4_reasonAgainst_24_0, if_neg (by decide), b_X4_reasonAgainst_24_7, if_pos rfl, b_X4_reasonAgainst_24_12, if_neg hy, b_X4_reasonAgainst_24_21]
    · rw [d_X6_endYear, b_X6_endYear_0, if_pos (show am_in (31 : Int32) 32 by decide), show (31 : Int32).toNatClampNeg = 31 from rfl, b_X6_endYear_7, if_pos my, b_X6_endYear_12]
/-- a quake -/
theorem aw_qk {be l : Int32} (h1 : am_rn be 0 18) (h3 : am_rn l (-9) 9) : ((if (0 : Int32) ≤ l then l else (0 : Int32) - l) ≤ be) ↔ (-be ≤ l ∧ l ≤ be) := by
  have e2 : (-be).toInt = -be.toInt := am_neg (by omega)
  rw [Int32.le_iff_toInt_le, am_absI (by omega), Int32.le_iff_toInt_le, Int32.le_iff_toInt_le, e2]
  omega
def aw_qw (be : Int32) (l : Nat → Int32) : Nat → Int32 → Int32
  | 0, s => s
  | n + 1, s => if -be ≤ l n ∧ l n ≤ be then aw_qw be l n s else aw_qw be l n s &&& (((1 : Int32) <<< (nI n &&& 31)) ^^^ (-1))
theorem aw_qw_rn {be : Int32} {l : Nat → Int32} {s : Int32} (h : am_rn s 0 255) : ∀ n, am_rn (aw_qw be l n s) 0 255
  | 0 => h
  | n + 1 => by
    have ih := aw_qw_rn (be := be) (l := l) h n
    rw [aw_qw]
    split
    · exact ih
    · exact b_rn (k := 8) (by omega) (fun j h7 h32 => by rw [b_and, am_rnb ih (k := 8) (by omega) h7]; rfl)
theorem act_quake (X : AMx) {R : Nat → Nat → Int32} {Z : Nat → Int32} {A : Nat → Nat → Int32} {Y : Nat → Int32} {f : Nat} (h : am_TL R Z A Y f) (a t : Int32) : am_AC X R Z A Y f 3 a t (fun r A' Y' => r = 0 ∧ ∀ (R : Nat → Nat → Int32) (Z : Nat → Int32), am_D X 119 [.ref 88] (am_WH R Z A Y) = some (none, am_WH R Z A' Y')) := by
  have v0 : Z 7 = Y 1 ∧ am_rn (Z 7) 0 18 := am_V0 h.1
  have v2 : Z 9 = A 1 30 ∧ am_rn (Z 9) 0 255 := am_V2 h.1
  have v4 : Z 11 = A 1 31 ∧ am_rn (Z 11) 0 99 := am_V4 h.1
  have v8 : ∀ i, i < 7 → R 10 i = A 1 i ∧ am_rn (R 10 i) 0 2 := am_V8 h.1
  have v9 : ∀ i, i < 7 → R 11 i = A 1 (7 + i) ∧ am_rn (R 11 i) 0 9 := am_V9 h.1
  have v11 : ∀ i, i < 8 → R 13 i = A 1 (14 + i) ∧ am_rn (R 13 i) (-9) 9 := am_V11 h.1
  have v12 : ∀ i, i < 8 → R 14 i = A 1 (22 + i) ∧ am_rn (R 14 i) 0 2 := am_V12 h.1
  have eZ : am_up Z 9 (Z 9) = Z := am_up_self Z 9
  have eA : am_up A 1 (upd (A 1) 30 (A 1 30)) = A := by
    rw [show upd (A 1) 30 (A 1 30) = A 1 by funext j; unfold upd; split <;> simp_all]
    exact am_up_self A 1
  obtain ⟨W, eW⟩ : ∃ W, W = aw_qw (Z 7) (R 13) 8 (Z 9) := ⟨_, rfl⟩
  have hW : am_rn W 0 255 := by rw [eW]; exact aw_qw_rn v2.2 8
  refine am_AC_yes X (R' := R) (Z' := am_up Z 9 W) (A' := am_up A 1 (upd (A 1) 30 W)) (Y' := Y) ⟨?_, h.2.1, h.2.2.1, h.2.2.2⟩ ⟨fun _ _ => rfl, fun j hj => am_up_n _ _ (by omega), fun j hj => am_up_n _ _ hj, fun _ _ => rfl⟩ (fun j _ _ => am_up_n _ _ (by omega)) ⟨rfl, rfl, rfl⟩ (fun A Y => ?_) (fun A Y => ?_) ⟨rfl, ?_⟩
  · have w2 : W = upd (A 1) 30 W 30 ∧ am_rn W 0 255 := ⟨(upd_s _ _ _).symm, hW⟩
    have w4 : Z 11 = upd (A 1) 30 W 31 ∧ am_rn (Z 11) 0 99 := ⟨by rw [upd_n _ _ (by omega)]; exact v4.1, v4.2⟩
    have w8 := am_row_no0 v8 (k := 30) W (by omega)
    have w9 := am_row_no 7 v9 (k := 30) W (by omega)
    have w11 := am_row_no 14 v11 (k := 30) W (by omega)
    have w12 := am_row_no 22 v12 (k := 30) W (by omega)
    exact (am_VR_mk (have q := am_V0 h.1; q) (have q := am_V1 h.1; q) (w2) (have q := am_V3 h.1; q) (w4) (have q := am_V5 h.1; q) (have q := am_V6 h.1; q) (have q := am_V7 h.1; q) (w8) (w9) (have q := am_V10 h.1; q) (w11) (w12) (have q := am_V13 h.1; q) (have q := am_V14 h.1; q) (have q := am_V15 h.1; q))
  · rw [d_X4_reasonAgainst_24, b_X4_reasonAgainst_24_0, if_pos rfl, b_X4_reasonAgainst_24_5]
  · have loop : am_E X AM_X4_quake 2 [some (.ref 24), some (.int 0)] [] (am_WH R Z A Y) = some (none, am_WH R (am_up Z 9 W) A Y) := by
      have k := am_loop (E := fun k => am_E X AM_X4_quake 2 [some (.ref 24), some (.int (nI k))] [] (am_WH R (am_up Z 9 (aw_qw (Z 7) (R 13) k (Z 9))) A Y)) (r := some (none, am_WH R (am_up Z 9 W) A Y)) 8 (by
        try dsimp only
        rw [b_X4_quake_24_2, if_pos (show (8 : Int32) ≤ nI 8 by decide), b_X4_quake_24_46, eW]) (by
        intro k hk
        try dsimp only
        rw [b_X4_quake_24_2, if_neg (show ¬ (8 : Int32) ≤ nI k from nI_ge (a := k) (b := 8) (by omega) (by omega)), b_X4_quake_24_8, d_X1_get_33, am_rg_nI hk (by omega), am_C_v, b_X4_quake_24_16, am_up_n Z _ (show (7 : Nat) ≠ 9 by omega)]
        by_cases g : -(Z 7) ≤ R 13 k ∧ R 13 k ≤ Z 7
        · rw [if_pos ((aw_qk v0.2 (v11 k hk).2).mpr g), b_X4_quake_24_40, nI_1, aw_qw, if_pos g]
        · rw [if_neg (fun z => g ((aw_qk v0.2 (v11 k hk).2).mp z)), b_X4_quake_24_26, nI_1, am_up_s, am_uu, aw_qw, if_neg g])
      rw [show aw_qw (Z 7) (R 13) 0 (Z 9) = Z 9 from rfl, eZ] at k
      exact k
    rw [d_X4_enact_24, b_X4_enact_24_0, if_neg (by decide), if_neg (by decide), if_neg (by decide), if_pos rfl, b_X4_enact_24_67, d_X4_quake_24, b_X4_quake_24_0, loop, am_C_0, b_X4_enact_24_71]
  · intro R2 Z2
    have k := am_loop (E := fun k => am_E X AM_X6_quake 2 [some (.ref 88), some (.int (nI k))] [] (am_WH R2 Z2 (am_up A 1 (upd (A 1) 30 (aw_qw (Z 7) (R 13) k (Z 9)))) Y)) (r := some (none, am_WH R2 Z2 (am_up A 1 (upd (A 1) 30 W)) Y)) 8 (by
      try dsimp only
      rw [b_X6_quake_2, if_pos (show (8 : Int32) ≤ nI 8 by decide), b_X6_quake_57, eW]) (by
      intro k hk
      try dsimp only
      have euu : ∀ x y : Int32, upd (upd (A 1) 30 x) 30 y = upd (A 1) 30 y := fun x y => by funext j; unfold upd; split <;> rfl
      rw [b_X6_quake_2, if_neg (show ¬ (8 : Int32) ≤ nI k from nI_ge (a := k) (b := 8) (by omega) (by omega)), b_X6_quake_8, if_pos (show am_in (30 : Int32) 32 by decide), show (30 : Int32).toNatClampNeg = 30 from rfl, am_up_s, upd_s, b_X6_quake_16, am_a14, if_pos (am_in_nI (by omega) (by omega)), am_cl (by omega), am_up_s, upd_n _ _ (by omega), b_X6_quake_25, s_in, am_C_v, b_X6_quake_37, ← (v11 k hk).1, ← v0.1]
      by_cases g : -(Z 7) ≤ R 13 k ∧ R 13 k ≤ Z 7
      · rw [am_bI_t g, if_neg (by decide), b_X6_quake_40, if_pos (show am_in (30 : Int32) 32 by decide), show (30 : Int32).toNatClampNeg = 30 from rfl, am_up_s, am_uu, euu, b_X6_quake_51, nI_1, Int32.and_neg_one, aw_qw, if_pos g]
      · rw [am_bI_f g, if_pos rfl, b_X6_quake_44, if_pos (show am_in (30 : Int32) 32 by decide), show (30 : Int32).toNatClampNeg = 30 from rfl, am_up_s, am_uu, euu, b_X6_quake_51, nI_1, aw_qw, if_neg g])
    rw [show aw_qw (Z 7) (R 13) 0 (Z 9) = Z 9 from rfl, v2.1, eA] at k
    rw [d_X6_quake, b_X6_quake_0]
    exact k
