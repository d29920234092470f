/-! the pad: signs, the fault. -/
theorem s_isOneSign (X : AMx) (h : List AMc) (x : Int32) : am_D X 4 [.int x] h = some (some (.int (am_bI (65 ≤ x ∧ x ≤ 71))), h) := by
  rw [d_X0_isOneSign, b_X0_isOneSign_0, s_isIn, am_C_v, b_X0_isOneSign_8]
  by_cases g : 65 ≤ x ∧ x ≤ 71
  · rw [am_bI_t g]; rfl
  · rw [am_bI_f g]; rfl
theorem s_isCreedSign (X : AMx) (h : List AMc) (x : Int32) : am_D X 5 [.int x] h = some (some (.int (am_bI (120 ≤ x ∧ x ≤ 122))), h) := by
  rw [d_X0_isCreedSign, b_X0_isCreedSign_0, s_isIn, am_C_v, b_X0_isCreedSign_8]
  by_cases g : 120 ≤ x ∧ x ≤ 122
  · rw [am_bI_t g]; rfl
  · rw [am_bI_f g]; rfl
/-- what may stand behind a sign: 0 an act, 1 what he does, 2 a wall, 3 nothing -/
def aw_rm (x : Int32) (q : Nat) : Nat := if q = 0 then (if 65 ≤ x ∧ x ≤ 71 then 1 else if x = 42 ∨ x = 46 then 0 else 3) else (if 48 ≤ x ∧ x ≤ 55 then 0 else if q = 2 then 3 else if x = 94 then 2 else if 120 ≤ x ∧ x ≤ 122 then 0 else 3)
theorem aw_rm_le (x : Int32) (q : Nat) : aw_rm x q ≤ 3 := by
  unfold aw_rm
  repeat' split
  all_goals omega
theorem s_roomBehind (X : AMx) (h : List AMc) (x : Int32) {q : Nat} (hq : q < 3) : am_D X 3 [.int x, .int (nI q)] h = some (some (.int (nI (aw_rm x q))), h) := by
  rw [d_X0_roomBehind, b_X0_roomBehind_0]
  by_cases g0 : q = 0
  · subst g0
    rw [if_pos (show nI 0 = 0 from rfl), b_X0_roomBehind_4, s_isOneSign, am_C_v, b_X0_roomBehind_8]
    unfold aw_rm
    rw [if_pos rfl]
    by_cases g1 : 65 ≤ x ∧ x ≤ 71
    · rw [am_bI_t g1, if_neg (by decide), b_X0_roomBehind_11, if_pos g1]; rfl
    · rw [am_bI_f g1, if_pos rfl, b_X0_roomBehind_13, if_neg g1]
      by_cases g2 : x = 42
      · rw [if_pos g2, b_X0_roomBehind_25, if_pos (Or.inl g2)]; rfl
      · rw [if_neg g2, b_X0_roomBehind_19]
        by_cases g3 : x = 46
        · rw [if_pos g3, b_X0_roomBehind_25, if_pos (Or.inr g3)]; rfl
        · rw [if_neg g3, b_X0_roomBehind_29, if_neg (fun z => z.elim g2 g3)]; rfl
  · rw [if_neg (nI_ne0 (by omega) (by omega)), b_X0_roomBehind_31, s_isIn, am_C_v, b_X0_roomBehind_39]
    unfold aw_rm
    rw [if_neg g0]
    by_cases g1 : 48 ≤ x ∧ x ≤ 55
    · rw [am_bI_t g1, if_neg (by decide), b_X0_roomBehind_42, if_pos g1]; rfl
    · rw [am_bI_f g1, if_pos rfl, b_X0_roomBehind_44, if_neg g1]
      by_cases g2 : q = 2
      · subst g2
        rw [if_pos (show nI 2 = 2 from rfl), b_X0_roomBehind_49, if_pos rfl]; rfl
      · rw [if_neg (show ¬ nI q = (2 : Int32) from fun z => g2 ((nI_eq (a := q) (b := 2) (by omega) (by omega)).mp z)), b_X0_roomBehind_51, if_neg g2]
        by_cases g3 : x = 94
        · rw [if_pos g3, b_X0_roomBehind_57, if_pos g3]; rfl
        · rw [if_neg g3, b_X0_roomBehind_59, s_isCreedSign, am_C_v, b_X0_roomBehind_63, if_neg g3]
          by_cases g4 : 120 ≤ x ∧ x ≤ 122
          · rw [am_bI_t g4, if_neg (by decide), b_X0_roomBehind_66, if_pos g4]; rfl
          · rw [am_bI_f g4, if_pos rfl, b_X0_roomBehind_70, if_neg g4]; rfl
/-- the fault, of signs s from i on -/
def aw_fp (s : Nat → Int32) (n : Nat) : Nat → Nat → Nat → Int32
  | 0, _, q => if q = 0 then -6 else nI n
  | d + 1, i, q => if aw_rm (s i) q = 3 then nI i else aw_fp s n d (i + 1) (aw_rm (s i) q)
theorem aw_fp_cong {s u : Nat → Int32} {n : Nat} : ∀ {d i q : Nat}, (∀ j, j < i + d → s j = u j) → aw_fp s n d i q = aw_fp u n d i q
  | 0, _, _, _ => rfl
  | d + 1, i, q, h => by rw [aw_fp, aw_fp, h i (by omega), aw_fp_cong (fun j hj => h j (by omega))]
theorem s_faultPlace (X : AMx) (R : Nat → Nat → Int32) (Z : Nat → Int32) (A : Nat → Nat → Int32) (Y : Nat → Int32) {n : Nat} (hn : n ≤ 60) (hZ : Z 28 = nI n) : am_D X 2 [.ref 20] (am_WH R Z A Y) = some (some (.int (aw_fp (R 36) n n 0 0)), am_WH R Z A Y) := by
  have key : ∀ d i q, i + d = n → q < 3 → am_E X AM_X0_faultPlace 4 [some (.ref 20), some (.int (nI q)), some (.int (nI i))] [] (am_WH R Z A Y) = some (some (.int (aw_fp (R 36) n d i q)), am_WH R Z A Y) := by
    intro d
    induction d with
    | zero =>
      intro i q hi hq
      obtain rfl : i = n := by omega
      rw [b_X0_faultPlace_4, hZ, if_pos (Int32.le_refl _), b_X0_faultPlace_38, aw_fp]
      by_cases g : q = 0
      · subst g
        rw [if_pos (show nI 0 = 0 from rfl), if_pos rfl, b_X0_faultPlace_42]
      · rw [if_neg (nI_ne0 (by omega) (by omega)), if_neg g, b_X0_faultPlace_47, hZ]
    | succ d ih =>
      intro i q hi hq
      have hb := aw_rm_le (R 36 i) q
      rw [b_X0_faultPlace_4, hZ, if_neg (nI_ge (by omega) (by omega)), b_X0_faultPlace_12, d_X1_get_21, am_rg_nI (by omega) (by omega), am_C_v, b_X0_faultPlace_20, s_roomBehind X _ _ hq, am_C_v, b_X0_faultPlace_24, aw_fp]
      by_cases g : aw_rm (R 36 i) q = 3
      · rw [g, if_pos (show nI 3 = 3 from rfl), if_pos rfl, b_X0_faultPlace_30]
      · rw [if_neg (show ¬ nI (aw_rm (R 36 i) q) = (3 : Int32) from fun z => g ((nI_eq (a := aw_rm (R 36 i) q) (b := 3) (by omega) (by omega)).mp z)), if_neg g, b_X0_faultPlace_32, nI_1]
        exact ih (i + 1) _ (by omega) (by omega)
  rw [d_X0_faultPlace, b_X0_faultPlace_0]
  exact key n 0 0 (by omega) (by omega)
theorem s_faultOf (X : AMx) (R : Nat → Nat → Int32) (Z : Nat → Int32) (A : Nat → Nat → Int32) (Y : Nat → Int32) {n : Nat} (hn : n ≤ 60) (hY : Y 4 = nI n) : am_D X 113 [.ref 88] (am_WH R Z A Y) = some (some (.int (aw_fp (A 8) n n 0 0)), am_WH R Z A Y) := by
  have key : ∀ d i q y3 y4 y5, i + d = n → q < 3 → am_E X AM_X6_faultOf 4 [some (.ref 88), some (.int (nI q)), some (.int (nI i)), y3, y4, y5] [] (am_WH R Z A Y) = some (some (.int (aw_fp (A 8) n d i q)), am_WH R Z A Y) := by
    intro d
    induction d with
    | zero =>
      intro i q y3 y4 y5 hi hq
      obtain rfl : i = n := by omega
      rw [b_X6_faultOf_4, hY, if_pos (Int32.le_refl _), b_X6_faultOf_146, aw_fp]
      by_cases g : q = 0
      · subst g
        rw [if_pos (show nI 0 = 0 from rfl), if_pos rfl, b_X6_faultOf_150]
      · rw [if_neg (nI_ne0 (by omega) (by omega)), if_neg g, b_X6_faultOf_155, hY]
    | succ d ih =>
      intro i q y3 y4 y5 hi hq
      rw [b_X6_faultOf_4, hY, if_neg (nI_ge (by omega) (by omega)), b_X6_faultOf_12, if_pos (am_in_nI (by omega) (by omega)), am_cl (by omega), b_X6_faultOf_18, s_in, am_C_v, b_X6_faultOf_27, aw_fp]
      have i0 := fun y3 y4 y5 => ih (i + 1) 0 y3 y4 y5 (by omega) (by omega)
      have i1 := fun y3 y4 y5 => ih (i + 1) 1 y3 y4 y5 (by omega) (by omega)
      have i2 := fun y3 y4 y5 => ih (i + 1) 2 y3 y4 y5 (by omega) (by omega)
      rw [show nI 0 = 0 from rfl] at i0
      rw [show nI 1 = 1 from rfl] at i1
      rw [show nI 2 = 2 from rfl] at i2
      by_cases g0 : q = 0
      · subst g0
        rw [if_pos (show nI 0 = 0 from rfl), b_X6_faultOf_33, s_in, am_C_v, b_X6_faultOf_41]
        by_cases g1 : 65 ≤ A 8 i ∧ A 8 i ≤ 71
        · have e : aw_rm (A 8 i) 0 = 1 := by unfold aw_rm; rw [if_pos rfl, if_pos g1]
          rw [am_bI_t g1, if_neg (by decide), b_X6_faultOf_56, if_neg (by decide), b_X6_faultOf_105, if_pos (show nI 0 = 0 from rfl), b_X6_faultOf_109, s_in, am_C_v, am_bI_t g1, b_X6_faultOf_117, if_neg (by decide), b_X6_faultOf_120, nI_1, e, if_neg (by decide)]
          exact i1 _ _ _
        · rw [am_bI_f g1, if_pos rfl, b_X6_faultOf_44]
          by_cases g2 : A 8 i = 42 ∨ A 8 i = 46
          · have e : aw_rm (A 8 i) 0 = 0 := by unfold aw_rm; rw [if_pos rfl, if_neg g1, if_pos g2]
            have e44 : (if A 8 i = 42 then am_E X AM_X6_faultOf 56 [some (.ref 88), some (.int (nI 0)), some (.int (nI i)), some (.int (A 8 i)), some (.int (am_bI (48 ≤ A 8 i ∧ A 8 i ≤ 55))), y5] [] (am_WH R Z A Y) else am_E X AM_X6_faultOf 50 [some (.ref 88), some (.int (nI 0)), some (.int (nI i)), some (.int (A 8 i)), some (.int (am_bI (48 ≤ A 8 i ∧ A 8 i ≤ 55))), y5] [] (am_WH R Z A Y)) = am_E X AM_X6_faultOf 56 [some (.ref 88), some (.int (nI 0)), some (.int (nI i)), some (.int (A 8 i)), some (.int (am_bI (48 ≤ A 8 i ∧ A 8 i ≤ 55))), y5] [] (am_WH R Z A Y) := by
              by_cases g3 : A 8 i = 42
              · rw [if_pos g3]
              · rw [if_neg g3, b_X6_faultOf_50, if_pos (g2.resolve_left g3)]
            rw [e44, b_X6_faultOf_56, if_neg (by decide), b_X6_faultOf_105, if_pos (show nI 0 = 0 from rfl), b_X6_faultOf_109, s_in, am_C_v, am_bI_f g1, b_X6_faultOf_117, if_pos rfl, b_X6_faultOf_124, nI_1, e, if_neg (by decide)]
            exact i0 _ _ _
          · have e : aw_rm (A 8 i) 0 = 3 := by unfold aw_rm; rw [if_pos rfl, if_neg g1, if_neg g2]
            rw [if_neg (fun z => g2 (Or.inl z)), b_X6_faultOf_50, if_neg (fun z => g2 (Or.inr z)), b_X6_faultOf_60, if_pos rfl, b_X6_faultOf_103, e, if_pos rfl]
      · rw [if_neg (nI_ne0 (by omega) (by omega)), b_X6_faultOf_64]
        by_cases g1 : 48 ≤ A 8 i ∧ A 8 i ≤ 55
        · have e : aw_rm (A 8 i) q = 0 := by unfold aw_rm; rw [if_neg g0, if_pos g1]
          have n94 : ¬ A 8 i = 94 := fun z => by rw [z] at g1; exact absurd g1 (by decide)
          rw [am_bI_t g1, if_neg (by decide), b_X6_faultOf_91, if_neg (by decide), b_X6_faultOf_105, if_neg (nI_ne0 (by omega) (by omega)), b_X6_faultOf_128, if_neg n94, b_X6_faultOf_138, nI_1, e, if_neg (by decide)]
          exact i0 _ _ _
        · rw [am_bI_f g1, if_pos rfl, b_X6_faultOf_69]
          by_cases g2 : q = 2
          · have e : aw_rm (A 8 i) q = 3 := by unfold aw_rm; rw [if_neg g0, if_neg g1, if_pos g2]
            rw [if_neg (fun z => by have := (nI_eq (a := q) (b := 1) (by omega) (by omega)).mp z; omega), b_X6_faultOf_95, if_pos rfl, b_X6_faultOf_103, e, if_pos rfl]
          · obtain rfl : q = 1 := by omega
            rw [if_pos (show nI 1 = 1 from rfl), b_X6_faultOf_74]
            by_cases g3 : A 8 i = 94
            · have e : aw_rm (A 8 i) 1 = 2 := by unfold aw_rm; rw [if_neg g0, if_neg g1, if_neg g2, if_pos g3]
              rw [if_pos g3, b_X6_faultOf_91, if_neg (by decide), b_X6_faultOf_105, if_neg (by decide), b_X6_faultOf_128, if_pos g3, b_X6_faultOf_134, nI_1, e, if_neg (by decide)]
              exact i2 _ _ _
            · rw [if_neg g3, b_X6_faultOf_80, s_in, am_C_v, b_X6_faultOf_88]
              by_cases g4 : 120 ≤ A 8 i ∧ A 8 i ≤ 122
              · have e : aw_rm (A 8 i) 1 = 0 := by unfold aw_rm; rw [if_neg g0, if_neg g1, if_neg g2, if_neg g3, if_pos g4]
                rw [am_bI_t g4, if_neg (by decide), b_X6_faultOf_91, if_neg (by decide), b_X6_faultOf_105, if_neg (by decide), b_X6_faultOf_128, if_neg g3, b_X6_faultOf_138, nI_1, e, if_neg (by decide)]
                exact i0 _ _ _
              · have e : aw_rm (A 8 i) 1 = 3 := by unfold aw_rm; rw [if_neg g0, if_neg g1, if_neg g2, if_neg g3, if_neg g4]
                rw [am_bI_f g4, if_pos rfl, b_X6_faultOf_95, if_pos rfl, b_X6_faultOf_103, e, if_pos rfl]
  rw [d_X6_faultOf, b_X6_faultOf_0]
  exact key n 0 0 none none none (by omega) (by omega)
/-- the fault is none, or a place -/
theorem aw_fp_or (s : Nat → Int32) {n : Nat} : ∀ d i q, i + d = n → aw_fp s n d i q = -6 ∨ ∃ j, j ≤ n ∧ aw_fp s n d i q = nI j
  | 0, i, q, h => by
    rw [aw_fp]
    by_cases g : q = 0
    · exact Or.inl (if_pos g)
    · exact Or.inr ⟨n, Nat.le_refl _, if_neg g⟩
  | d + 1, i, q, h => by
    rw [aw_fp]
    by_cases g : aw_rm (s i) q = 3
    · exact Or.inr ⟨i, by omega, if_pos g⟩
    · rw [if_neg g]
      exact aw_fp_or s d (i + 1) _ (by omega)
theorem aw_nI6 {j : Nat} (h : j < 1000) : ¬ nI j = -6 := fun z => by
  have := congrArg Int32.toInt z
  rw [nI_toInt (by omega)] at this
  have e : (-6 : Int32).toInt = -6 := rfl
  omega
/-- no fault: the signs from i on -/
theorem aw_fp_1 {s : Nat → Int32} {n d i q : Nat} (hn : n < 1000) (hi : i + (d + 1) = n) (h : aw_fp s n (d + 1) i q = -6) : aw_rm (s i) q ≠ 3 ∧ aw_fp s n d (i + 1) (aw_rm (s i) q) = -6 := by
  rw [aw_fp] at h
  by_cases g : aw_rm (s i) q = 3
  · rw [if_pos g] at h
    exact absurd h (aw_nI6 (by omega))
  · rw [if_neg g] at h
    exact ⟨g, h⟩
theorem aw_fp_0 {s : Nat → Int32} {n i q : Nat} (hn : n < 1000) (h : aw_fp s n 0 i q = -6) : q = 0 := by
  rw [aw_fp] at h
  by_cases g : q = 0
  · exact g
  · rw [if_neg g] at h
    exact absurd h (aw_nI6 (by omega))
theorem op_fault (X : AMx) : am_OP X 58 114 [] := by
  intro R Z A Y hI
  obtain ⟨e1, r1, hp⟩ := hI.2.1
  obtain ⟨n, hn, en⟩ := am_rn_ix r1 (n := 61) (by omega) (by omega)
  have eY : Y 4 = nI n := e1.symm.trans en
  refine ⟨.int (aw_fp (R 36) n n 0 0), R, Z, A, Y, ?_, ?_, hI⟩
  · rw [d_X5_fault, b_X5_fault_0, s_faultPlace X R Z A Y (by omega) en, am_C_v, b_X5_fault_7]
  · rw [d_X6_fault, b_X6_fault_0, s_faultOf X R Z A Y (by omega) eY, am_C_v, b_X6_fault_4, aw_fp_cong (s := R 36) (u := A 8) (fun j hj => hp j (by omega))]
