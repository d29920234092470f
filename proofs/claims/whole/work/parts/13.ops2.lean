/-! kin, stair, say, wipe, forget -/
theorem am_inh_PD {R R' : Nat → Nat → Int32} {Z Z' : Nat → Int32} {A A' : Nat → Nat → Int32} {Y Y' : Nat → Int32} (h : am_PD R Z A Y) (e1 : Z' 28 = Z 28) (e2 : Y' 4 = Y 4) (e3 : R' 36 = R 36) (e4 : A' 8 = A 8) : am_PD R' Z' A' Y' := by
  unfold am_PD
  rw [e1, e2, e3, e4]
  exact h
theorem s_kinTwos (X : AMx) (R : Nat → Nat → Int32) (Z : Nat → Int32) (A : Nat → Nat → Int32) (Y : Nat → Int32) (hk : ∀ k, k < 7 → am_rn (R 3 k) 0 127) : am_D X 36 [.ref 1] (am_WH R Z A Y) = some (some (.int (l_sum (fun k => nI (fb_ct (bt (R 3 k)) 12)) 7 / 2)), am_WH R Z A Y) := by
  have key : ∀ d k, k + d = 7 → am_E X AM_X4_kinTwos 4 [some (.ref 1), some (.int (l_sum (fun k => nI (fb_ct (bt (R 3 k)) 12)) k)), some (.int (nI k))] [] (am_WH R Z A Y) = some (some (.int (l_sum (fun k => nI (fb_ct (bt (R 3 k)) 12)) 7 / 2)), am_WH R Z A Y) := by
    intro d
    induction d with
    | zero =>
      intro k hk2
      obtain rfl : k = 7 := by omega
      rw [b_X4_kinTwos_1_4, if_pos (show (7 : Int32) ≤ nI 7 from Int32.le_refl _), b_X4_kinTwos_1_30]
    | succ d ih =>
      intro k hk2
      rw [b_X4_kinTwos_1_4, if_neg (show ¬ (7 : Int32) ≤ nI k from nI_ge (a := k) (b := 7) (by omega) (by omega)), b_X4_kinTwos_1_10, d_X1_get_8, am_rg_nI (by omega) (by omega), am_C_v, b_X4_kinTwos_1_19, s_bitCount12 X _ (am_rnw (hk k (by omega)) (Int.le_refl _) (by omega)), am_C_v, b_X4_kinTwos_1_22, nI_1]
      exact ih (k + 1) (by omega)
  simp only [d_X4_kinTwos_1, b_X4_kinTwos_1_0]
  exact key 7 0 (by omega)
theorem l_mkin (X : AMx) (R : Nat → Nat → Int32) (Z : Nat → Int32) (A : Nat → Nat → Int32) (Y : Nat → Int32) (x1 x2 x3 : Int32) : am_E X AM_X6_kin 101 [some (.ref 88), some (.int x1), some (.int x2), some (.int x3), some (.int 0), some (.int 0)] [] (am_WH R Z A Y) = some (some (.int (l_sum (fun k => nI (fb_ct (bt (A 3 k)) 12)) 7 / 2)), am_WH R Z A Y) := by
  have key : ∀ d k, k + d = 7 → am_E X AM_X6_kin 101 [some (.ref 88), some (.int x1), some (.int x2), some (.int x3), some (.int (l_sum (fun k => nI (fb_ct (bt (A 3 k)) 12)) k)), some (.int (nI k))] [] (am_WH R Z A Y) = some (some (.int (l_sum (fun k => nI (fb_ct (bt (A 3 k)) 12)) 7 / 2)), am_WH R Z A Y) := by
    intro d
    induction d with
    | zero =>
      intro k hk2
      obtain rfl : k = 7 := by omega
      rw [b_X6_kin_101, if_pos (show (7 : Int32) ≤ nI 7 from Int32.le_refl _), b_X6_kin_129]
    | succ d ih =>
      intro k hk2
      rw [b_X6_kin_101, if_neg (show ¬ (7 : Int32) ≤ nI k from nI_ge (a := k) (b := 7) (by omega) (by omega)), b_X6_kin_108, if_pos (am_in_nI (by omega) (by omega)), am_cl (by omega), b_X6_kin_117, s_bits, am_C_v, b_X6_kin_120, nI_1]
      exact ih (k + 1) (by omega)
  exact key 7 0 (by omega)
/-- a row of kin with one more, or less -/
def am_kv (s : Int32) (j : Nat) (c : Int32) : Int32 := if c = 0 then s &&& (((1 : Int32) <<< (nI j &&& 31)) ^^^ (-1)) else (s &&& (((1 : Int32) <<< (nI j &&& 31)) ^^^ (-1))) ||| ((1 : Int32) <<< (nI j &&& 31))
theorem s_setKin (X : AMx) (R : Nat → Nat → Int32) (Z : Nat → Int32) (A : Nat → Nat → Int32) (Y : Nat → Int32) {i j : Nat} (hi : i < 7) (c : Int32) : am_D X 35 [.ref 1, .int (nI i), .int (nI j), .int c] (am_WH R Z A Y) = some (none, am_WH (am_up R 3 (upd (R 3) i (am_kv (R 3 i) j c))) Z A Y) := by
  unfold am_kv
  by_cases hc : c = 0
  · simp only [d_X4_setKin_1, b_X4_setKin_1_0, b_X4_setKin_1_8, b_X4_setKin_1_25, b_X4_setKin_1_34, b_X4_setKin_1_39, am_C_v, am_C_0, am_ue, if_true, if_false, eq_self, am_10, ite_not, Nat.reduceEqDiff, reduceIte, d_X1_get_8, d_X1_set_8, am_rg_nI hi (by omega), am_rs_nI hi (by omega), hc]
  · simp only [d_X4_setKin_1, b_X4_setKin_1_0, b_X4_setKin_1_8, b_X4_setKin_1_25, b_X4_setKin_1_34, b_X4_setKin_1_39, am_C_v, am_C_0, am_ue, if_true, if_false, eq_self, am_10, ite_not, Nat.reduceEqDiff, reduceIte, d_X1_get_8, d_X1_set_8, am_rg_nI hi (by omega), am_rs_nI hi (by omega), if_neg hc]
theorem am_kv_rn {s : Int32} {j : Nat} (hj : j < 7) (c : Int32) (h : am_rn s 0 127) : am_rn (am_kv s j c) 0 127 := by
  apply b_rn7
  intro k h7 h32
  have e : bt s k = false := am_rnb h (k := 7) (by omega) h7
  unfold am_kv
  split
  · rw [b_and, e]; rfl
  · rw [b_or, b_and, e, b_bit j (by omega) h32]
    simp; omega
theorem am_uu {α : Type} (f : Nat → α) (k : Nat) (x y : α) : am_up (am_up f k x) k y = am_up f k y := by
  funext j
  simp only [am_ue]
  split <;> rfl
theorem am_u4 (g : Nat → Int32) (i j : Nat) (x y x' y' : Int32) : upd (upd (upd (upd g i x) j y) i x') j y' = upd (upd g i x') j y' := by
  funext k
  unfold upd
  by_cases h1 : k = j
  · simp [h1]
  · by_cases h2 : k = i <;> simp [h1, h2]
theorem op_kin (X : AMx) (a b c : Int32) : am_OP X 54 108 [.int a, .int b, .int c] := by
  intro R Z A Y hI
  by_cases h1 : 0 ≤ a ∧ a ≤ 6
  · by_cases h2 : 0 ≤ b ∧ b ≤ 6
    · by_cases h3 : a = b
      · subst h3
        refine ⟨.int (-1), R, Z, A, Y, ?_, ?_, hI⟩
        · simp only [d_X5_kin, b_X5_kin_0, b_X5_kin_7, b_X5_kin_10, b_X5_kin_17, b_X5_kin_20, b_X5_kin_25, b_X5_kin_27, b_X5_kin_37, b_X5_kin_47, b_X5_kin_54, s_isIn, am_C_v, am_C_0, am_ue, if_true, if_false, eq_self, am_10, ite_not, Nat.reduceEqDiff, reduceIte, am_bI_t h1]
        · simp only [d_X6_kin, b_X6_kin_0, b_X6_kin_7, b_X6_kin_10, b_X6_kin_17, b_X6_kin_20, b_X6_kin_25, b_X6_kin_27, b_X6_kin_34, b_X6_kin_41, b_X6_kin_48, b_X6_kin_55, b_X6_kin_62, b_X6_kin_66, b_X6_kin_72, b_X6_kin_75, b_X6_kin_82, b_X6_kin_86, b_X6_kin_92, b_X6_kin_95, b_X6_kin_108, b_X6_kin_117, b_X6_kin_120, b_X6_kin_129, s_in, am_C_v, am_C_0, am_ue, if_true, if_false, eq_self, am_10, ite_not, Nat.reduceEqDiff, reduceIte, am_bI_t h1]
      · obtain ⟨i, hi, rfl⟩ := am_ix h1 (n := 7) (by decide) (by omega)
        obtain ⟨j, hj, rfl⟩ := am_ix h2 (n := 7) (by decide) (by omega)
        have hij : i ≠ j := fun z => h3 (by rw [z])
        have k10 : ∀ k, k < 7 → R 3 k = A 3 k ∧ am_rn (R 3 k) 0 127 := hI.1 10
        have hr : ∀ k, k < 7 → upd (upd (R 3) i (am_kv (A 3 i) j c)) j (am_kv (A 3 j) i c) k = upd (upd (A 3) i (am_kv (A 3 i) j c)) j (am_kv (A 3 j) i c) k ∧ am_rn (upd (upd (R 3) i (am_kv (A 3 i) j c)) j (am_kv (A 3 j) i c) k) 0 127 := by
          exact am_row_up (am_row_up k10 i (by rw [← (k10 i hi).1]; exact am_kv_rn hj c (k10 i hi).2)) j (by rw [← (k10 j hj).1]; exact am_kv_rn hi c (k10 j hj).2)
        have hs : ∀ n, n ≤ 7 → l_sum (fun k => nI (fb_ct (bt (upd (upd (R 3) i (am_kv (A 3 i) j c)) j (am_kv (A 3 j) i c) k)) 12)) n = l_sum (fun k => nI (fb_ct (bt (upd (upd (A 3) i (am_kv (A 3 i) j c)) j (am_kv (A 3 j) i c) k)) 12)) n := by
          intro n
          induction n with
          | zero => intro _; rfl
          | succ n ih =>
            intro hn
            simp only [l_sum, ih (by omega), (hr n (by omega)).1]
        refine ⟨.int (l_sum (fun k => nI (fb_ct (bt (upd (upd (R 3) i (am_kv (A 3 i) j c)) j (am_kv (A 3 j) i c) k)) 12)) 7 / 2), am_up R 3 (upd (upd (R 3) i (am_kv (A 3 i) j c)) j (am_kv (A 3 j) i c)), Z, am_up A 3 (upd (upd (A 3) i (am_kv (A 3 i) j c)) j (am_kv (A 3 j) i c)), Y, ?_, ?_, ?_, am_inh_PD hI.2.1 rfl rfl rfl rfl, ?_⟩
        · simp only [d_X5_kin, b_X5_kin_0, b_X5_kin_7, b_X5_kin_10, b_X5_kin_17, b_X5_kin_20, b_X5_kin_25, b_X5_kin_27, b_X5_kin_37, b_X5_kin_47, b_X5_kin_54, s_isIn, am_C_v, am_C_0, am_ue, if_true, if_false, eq_self, am_10, ite_not, Nat.reduceEqDiff, reduceIte, am_bI_t h1, am_bI_t h2, if_neg h3, s_setKin X _ _ _ _ hi, s_setKin X _ _ _ _ hj, am_uu, upd_n _ _ (Ne.symm hij), (k10 i hi).1, (k10 j hj).1]
          rw [s_kinTwos X _ _ _ _ (fun k hk => by simp only [am_C_v, am_C_0, am_ue, if_true, if_false, eq_self, am_10, ite_not, Nat.reduceEqDiff, reduceIte]; exact (hr k hk).2)]
          simp only [am_C_v, am_C_0, am_ue, if_true, if_false, eq_self, am_10, ite_not, Nat.reduceEqDiff, reduceIte, b_X5_kin_54]
        · rw [hs 7 (by omega)]
          by_cases hc : c = 0
          · simp only [d_X6_kin, b_X6_kin_0, b_X6_kin_7, b_X6_kin_10, b_X6_kin_17, b_X6_kin_20, b_X6_kin_25, b_X6_kin_27, b_X6_kin_34, b_X6_kin_41, b_X6_kin_48, b_X6_kin_55, b_X6_kin_62, b_X6_kin_66, b_X6_kin_72, b_X6_kin_75, b_X6_kin_82, b_X6_kin_86, b_X6_kin_92, b_X6_kin_95, b_X6_kin_108, b_X6_kin_117, b_X6_kin_120, b_X6_kin_129, s_in, am_C_v, am_C_0, am_ue, if_true, if_false, eq_self, am_10, ite_not, Nat.reduceEqDiff, reduceIte, am_bI_t h1, am_bI_t h2, if_neg h3, if_pos (am_in_nI hi (by omega)), if_pos (am_in_nI hj (by omega)), am_cl (by omega : i < 2 ^ 31), am_cl (by omega : j < 2 ^ 31), hc, l_mkin, am_uu, upd_s, upd_n _ _ (Ne.symm hij), upd_n _ _ hij, Int32.or_zero, am_u4, am_kv]
          · simp only [d_X6_kin, b_X6_kin_0, b_X6_kin_7, b_X6_kin_10, b_X6_kin_17, b_X6_kin_20, b_X6_kin_25, b_X6_kin_27, b_X6_kin_34, b_X6_kin_41, b_X6_kin_48, b_X6_kin_55, b_X6_kin_62, b_X6_kin_66, b_X6_kin_72, b_X6_kin_75, b_X6_kin_82, b_X6_kin_86, b_X6_kin_92, b_X6_kin_95, b_X6_kin_108, b_X6_kin_117, b_X6_kin_120, b_X6_kin_129, s_in, am_C_v, am_C_0, am_ue, if_true, if_false, eq_self, am_10, ite_not, Nat.reduceEqDiff, reduceIte, am_bI_t h1, am_bI_t h2, if_neg h3, if_pos (am_in_nI hi (by omega)), if_pos (am_in_nI hj (by omega)), am_cl (by omega : i < 2 ^ 31), am_cl (by omega : j < 2 ^ 31), if_neg hc, l_mkin, am_uu, upd_s, upd_n _ _ (Ne.symm hij), upd_n _ _ hij, am_u4, am_kv]
        · exact (fun ii => match ii with | 0 => hI.1 0 | 1 => hI.1 1 | 2 => hI.1 2 | 3 => hI.1 3 | 4 => hI.1 4 | 5 => hI.1 5 | 6 => hI.1 6 | 7 => hI.1 7 | 8 => hI.1 8 | 9 => hI.1 9 | 10 => hr | 11 => hI.1 11 | 12 => hI.1 12 | 13 => hI.1 13 | 14 => hI.1 14 | 15 => hI.1 15 | _ + 16 => trivial)
        · exact am_IM_congr (fun k h _ => am_up_n _ _ (by omega)) (fun _ _ _ => rfl) rfl rfl rfl hI.2.2
    · refine ⟨.int (-1), R, Z, A, Y, ?_, ?_, hI⟩
      · simp only [d_X5_kin, b_X5_kin_0, b_X5_kin_7, b_X5_kin_10, b_X5_kin_17, b_X5_kin_20, b_X5_kin_25, b_X5_kin_27, b_X5_kin_37, b_X5_kin_47, b_X5_kin_54, s_isIn, am_C_v, am_C_0, am_ue, if_true, if_false, eq_self, am_10, ite_not, Nat.reduceEqDiff, reduceIte, am_bI_t h1, am_bI_f h2]
      · simp only [d_X6_kin, b_X6_kin_0, b_X6_kin_7, b_X6_kin_10, b_X6_kin_17, b_X6_kin_20, b_X6_kin_25, b_X6_kin_27, b_X6_kin_34, b_X6_kin_41, b_X6_kin_48, b_X6_kin_55, b_X6_kin_62, b_X6_kin_66, b_X6_kin_72, b_X6_kin_75, b_X6_kin_82, b_X6_kin_86, b_X6_kin_92, b_X6_kin_95, b_X6_kin_108, b_X6_kin_117, b_X6_kin_120, b_X6_kin_129, s_in, am_C_v, am_C_0, am_ue, if_true, if_false, eq_self, am_10, ite_not, Nat.reduceEqDiff, reduceIte, am_bI_t h1, am_bI_f h2]
  · refine ⟨.int (-1), R, Z, A, Y, ?_, ?_, hI⟩
    · simp only [d_X5_kin, b_X5_kin_0, b_X5_kin_7, b_X5_kin_10, b_X5_kin_17, b_X5_kin_20, b_X5_kin_25, b_X5_kin_27, b_X5_kin_37, b_X5_kin_47, b_X5_kin_54, s_isIn, am_C_v, am_C_0, am_ue, if_true, if_false, eq_self, am_10, ite_not, Nat.reduceEqDiff, reduceIte, am_bI_f h1]
    · simp only [d_X6_kin, b_X6_kin_0, b_X6_kin_7, b_X6_kin_10, b_X6_kin_17, b_X6_kin_20, b_X6_kin_25, b_X6_kin_27, b_X6_kin_34, b_X6_kin_41, b_X6_kin_48, b_X6_kin_55, b_X6_kin_62, b_X6_kin_66, b_X6_kin_72, b_X6_kin_75, b_X6_kin_82, b_X6_kin_86, b_X6_kin_92, b_X6_kin_95, b_X6_kin_108, b_X6_kin_117, b_X6_kin_120, b_X6_kin_129, s_in, am_C_v, am_C_0, am_ue, if_true, if_false, eq_self, am_10, ite_not, Nat.reduceEqDiff, reduceIte, am_bI_f h1]
theorem op_stair (X : AMx) (a b c d : Int32) : am_OP X 55 110 [.int a, .int b, .int c, .int d] := by
  intro R Z A Y hI
  by_cases h1 : 0 ≤ a ∧ a ≤ 11
  · by_cases h2 : 0 ≤ b ∧ b ≤ 9
    · by_cases h3 : 0 ≤ c ∧ c ≤ 9
      · by_cases h4 : b = c
        · subst h4
          refine ⟨.int (-2), R, Z, A, Y, ?_, ?_, hI⟩
          · simp only [d_X5_stair, b_X5_stair_0, b_X5_stair_7, b_X5_stair_10, b_X5_stair_12, b_X5_stair_16, b_X5_stair_19, b_X5_stair_23, b_X5_stair_26, b_X5_stair_31, b_X5_stair_36, b_X5_stair_39, b_X5_stair_42, b_X5_stair_69, b_X5_stair_81, b_X5_stair_94, b_X5_stair_104, s_isIn, s_isPlace, am_C_v, am_C_0, am_ue, if_true, if_false, eq_self, am_10, ite_not, Nat.reduceEqDiff, reduceIte, am_bI_t h1, am_bI_t h2]
          · simp only [d_X6_stair, b_X6_stair_0, b_X6_stair_7, b_X6_stair_10, b_X6_stair_12, b_X6_stair_16, b_X6_stair_19, b_X6_stair_23, b_X6_stair_26, b_X6_stair_31, b_X6_stair_36, b_X6_stair_39, b_X6_stair_42, b_X6_stair_61, b_X6_stair_68, b_X6_stair_76, b_X6_stair_83, s_in, s_misPlace, am_C_v, am_C_0, am_ue, if_true, if_false, eq_self, am_10, ite_not, Nat.reduceEqDiff, reduceIte, am_bI_t h1, am_bI_t h2]
        · by_cases h5 : -9 ≤ d ∧ d ≤ 9
          · obtain ⟨i, hi, rfl⟩ := am_ix h1 (n := 12) (by decide) (by omega)
            have e1 := (hI.1 3).1
            have r1 := (hI.1 3).2
            dsimp only at e1 r1
            have hp : am_rn (Z 3 ||| ((1 : Int32) <<< (nI i &&& 31))) 0 4095 := b_rn (k := 12) (by omega) (fun j h7 h32 => by
              rw [b_or, b_bit i (by omega) h32, am_rnb r1 (k := 12) (by omega) h7]
              simp; omega)
            refine ⟨.int (nI (fb_ct (bt (Z 3 ||| ((1 : Int32) <<< (nI i &&& 31)))) 12)), am_up (am_up (am_up R 6 (upd (R 6) i b)) 7 (upd (R 7) i c)) 8 (upd (R 8) i d), am_up Z 3 (Z 3 ||| ((1 : Int32) <<< (nI i &&& 31))), am_up (am_up (am_up A 4 (upd (A 4) i b)) 5 (upd (A 5) i c)) 6 (upd (A 6) i d), am_up Y 2 (Y 2 ||| ((1 : Int32) <<< (nI i &&& 31))), ?_, ?_, ?_, am_inh_PD hI.2.1 rfl rfl rfl rfl, ?_⟩
            · simp only [d_X5_stair, b_X5_stair_0, b_X5_stair_7, b_X5_stair_10, b_X5_stair_12, b_X5_stair_16, b_X5_stair_19, b_X5_stair_23, b_X5_stair_26, b_X5_stair_31, b_X5_stair_36, b_X5_stair_39, b_X5_stair_42, b_X5_stair_69, b_X5_stair_81, b_X5_stair_94, b_X5_stair_104, s_isIn, s_isPlace, s_isLean, am_C_v, am_C_0, am_ue, if_true, if_false, eq_self, am_10, ite_not, Nat.reduceEqDiff, reduceIte, am_bI_t h1, am_bI_t h2, am_bI_t h3, if_neg h4, am_bI_t h5, d_X1_set_14, d_X1_set_16, d_X1_set_18, am_rs_nI hi (by omega), s_bitCount12 X _ hp]
            · simp only [d_X6_stair, b_X6_stair_0, b_X6_stair_7, b_X6_stair_10, b_X6_stair_12, b_X6_stair_16, b_X6_stair_19, b_X6_stair_23, b_X6_stair_26, b_X6_stair_31, b_X6_stair_36, b_X6_stair_39, b_X6_stair_42, b_X6_stair_61, b_X6_stair_68, b_X6_stair_76, b_X6_stair_83, s_in, s_misPlace, s_misLean, am_C_v, am_C_0, am_ue, if_true, if_false, eq_self, am_10, ite_not, Nat.reduceEqDiff, reduceIte, am_bI_t h1, am_bI_t h2, am_bI_t h3, if_neg h4, am_bI_t h5, if_pos (am_in_nI hi (by omega)), am_cl (by omega : i < 2 ^ 31), s_bits, e1]
            · exact (fun ii => match ii with | 0 => hI.1 0 | 1 => hI.1 1 | 2 => hI.1 2 | 3 => ⟨by show _ ||| _ = _ ||| _; rw [e1], hp⟩ | 4 => hI.1 4 | 5 => hI.1 5 | 6 => hI.1 6 | 7 => hI.1 7 | 8 => hI.1 8 | 9 => hI.1 9 | 10 => hI.1 10 | 11 => hI.1 11 | 12 => hI.1 12 | 13 => am_row_up (hI.1 13) i (am_rn_le h2) | 14 => am_row_up (hI.1 14) i (am_rn_le h3) | 15 => am_row_up (hI.1 15) i (am_rn_le h5) | _ + 16 => trivial)
            · exact am_IM_congr (fun k h _ => by rw [am_up_n _ _ (by omega), am_up_n _ _ (by omega), am_up_n _ _ (by omega)]) (fun k h _ => am_up_n Z _ (by omega)) rfl rfl rfl hI.2.2
          · refine ⟨.int (-2), R, Z, A, Y, ?_, ?_, hI⟩
            · simp only [d_X5_stair, b_X5_stair_0, b_X5_stair_7, b_X5_stair_10, b_X5_stair_12, b_X5_stair_16, b_X5_stair_19, b_X5_stair_23, b_X5_stair_26, b_X5_stair_31, b_X5_stair_36, b_X5_stair_39, b_X5_stair_42, b_X5_stair_69, b_X5_stair_81, b_X5_stair_94, b_X5_stair_104, s_isIn, s_isPlace, s_isLean, am_C_v, am_C_0, am_ue, if_true, if_false, eq_self, am_10, ite_not, Nat.reduceEqDiff, reduceIte, am_bI_t h1, am_bI_t h2, am_bI_t h3, if_neg h4, am_bI_f h5]
            · simp only [d_X6_stair, b_X6_stair_0, b_X6_stair_7, b_X6_stair_10, b_X6_stair_12, b_X6_stair_16, b_X6_stair_19, b_X6_stair_23, b_X6_stair_26, b_X6_stair_31, b_X6_stair_36, b_X6_stair_39, b_X6_stair_42, b_X6_stair_61, b_X6_stair_68, b_X6_stair_76, b_X6_stair_83, s_in, s_misPlace, s_misLean, am_C_v, am_C_0, am_ue, if_true, if_false, eq_self, am_10, ite_not, Nat.reduceEqDiff, reduceIte, am_bI_t h1, am_bI_t h2, am_bI_t h3, if_neg h4, am_bI_f h5]
      · refine ⟨.int (-2), R, Z, A, Y, ?_, ?_, hI⟩
        · simp only [d_X5_stair, b_X5_stair_0, b_X5_stair_7, b_X5_stair_10, b_X5_stair_12, b_X5_stair_16, b_X5_stair_19, b_X5_stair_23, b_X5_stair_26, b_X5_stair_31, b_X5_stair_36, b_X5_stair_39, b_X5_stair_42, b_X5_stair_69, b_X5_stair_81, b_X5_stair_94, b_X5_stair_104, s_isIn, s_isPlace, am_C_v, am_C_0, am_ue, if_true, if_false, eq_self, am_10, ite_not, Nat.reduceEqDiff, reduceIte, am_bI_t h1, am_bI_t h2, am_bI_f h3]
        · simp only [d_X6_stair, b_X6_stair_0, b_X6_stair_7, b_X6_stair_10, b_X6_stair_12, b_X6_stair_16, b_X6_stair_19, b_X6_stair_23, b_X6_stair_26, b_X6_stair_31, b_X6_stair_36, b_X6_stair_39, b_X6_stair_42, b_X6_stair_61, b_X6_stair_68, b_X6_stair_76, b_X6_stair_83, s_in, s_misPlace, am_C_v, am_C_0, am_ue, if_true, if_false, eq_self, am_10, ite_not, Nat.reduceEqDiff, reduceIte, am_bI_t h1, am_bI_t h2, am_bI_f h3]
    · refine ⟨.int (-2), R, Z, A, Y, ?_, ?_, hI⟩
      · simp only [d_X5_stair, b_X5_stair_0, b_X5_stair_7, b_X5_stair_10, b_X5_stair_12, b_X5_stair_16, b_X5_stair_19, b_X5_stair_23, b_X5_stair_26, b_X5_stair_31, b_X5_stair_36, b_X5_stair_39, b_X5_stair_42, b_X5_stair_69, b_X5_stair_81, b_X5_stair_94, b_X5_stair_104, s_isIn, s_isPlace, am_C_v, am_C_0, am_ue, if_true, if_false, eq_self, am_10, ite_not, Nat.reduceEqDiff, reduceIte, am_bI_t h1, am_bI_f h2]
      · simp only [d_X6_stair, b_X6_stair_0, b_X6_stair_7, b_X6_stair_10, b_X6_stair_12, b_X6_stair_16, b_X6_stair_19, b_X6_stair_23, b_X6_stair_26, b_X6_stair_31, b_X6_stair_36, b_X6_stair_39, b_X6_stair_42, b_X6_stair_61, b_X6_stair_68, b_X6_stair_76, b_X6_stair_83, s_in, s_misPlace, am_C_v, am_C_0, am_ue, if_true, if_false, eq_self, am_10, ite_not, Nat.reduceEqDiff, reduceIte, am_bI_t h1, am_bI_f h2]
  · refine ⟨.int (-1), R, Z, A, Y, ?_, ?_, hI⟩
    · simp only [d_X5_stair, b_X5_stair_0, b_X5_stair_7, b_X5_stair_10, b_X5_stair_12, b_X5_stair_16, b_X5_stair_19, b_X5_stair_23, b_X5_stair_26, b_X5_stair_31, b_X5_stair_36, b_X5_stair_39, b_X5_stair_42, b_X5_stair_69, b_X5_stair_81, b_X5_stair_94, b_X5_stair_104, s_isIn, am_C_v, am_C_0, am_ue, if_true, if_false, eq_self, am_10, ite_not, Nat.reduceEqDiff, reduceIte, am_bI_f h1]
    · simp only [d_X6_stair, b_X6_stair_0, b_X6_stair_7, b_X6_stair_10, b_X6_stair_12, b_X6_stair_16, b_X6_stair_19, b_X6_stair_23, b_X6_stair_26, b_X6_stair_31, b_X6_stair_36, b_X6_stair_39, b_X6_stair_42, b_X6_stair_61, b_X6_stair_68, b_X6_stair_76, b_X6_stair_83, s_in, am_C_v, am_C_0, am_ue, if_true, if_false, eq_self, am_10, ite_not, Nat.reduceEqDiff, reduceIte, am_bI_f h1]
theorem op_say (X : AMx) (a : Int32) : am_OP X 56 111 [.int a] := by
  intro R Z A Y hI
  by_cases h1 : 33 ≤ a ∧ a ≤ 126
  · obtain ⟨e1, r1, hp⟩ := hI.2.1
    obtain ⟨n, hn, en⟩ := am_rn_ix r1 (n := 61) (by omega) (by omega)
    by_cases h2 : n = 60
    · subst h2
      refine ⟨.int (-4), R, Z, A, Y, ?_, ?_, hI⟩
      · simp only [d_X5_say, b_X5_say_0, b_X5_say_8, b_X5_say_11, b_X5_say_14, b_X5_say_22, b_X5_say_25, b_X5_say_35, d_X0_add, b_X0_add_0, b_X0_add_9, b_X0_add_11, b_X0_add_23, s_isIn, am_C_v, am_C_0, am_ue, if_true, if_false, eq_self, am_10, ite_not, Nat.reduceEqDiff, reduceIte, am_bI_t h1, en, if_neg (show ¬ nI 60 < (60 : Int32) by decide)]
      · simp only [d_X6_say, b_X6_say_0, b_X6_say_8, b_X6_say_11, b_X6_say_14, b_X6_say_23, b_X6_say_26, b_X6_say_36, s_in, am_C_v, am_C_0, am_ue, if_true, if_false, eq_self, am_10, ite_not, Nat.reduceEqDiff, reduceIte, am_bI_t h1, ← e1, en, if_pos (show nI 60 = (60 : Int32) by decide)]
    · have hn6 : n < 60 := by omega
      have l1 : nI n < (60 : Int32) := nI_lt (a := n) (b := 60) hn6 (by omega)
      have l2 : ¬ nI n = (60 : Int32) := fun z => by
        have := (nI_eq (a := n) (b := 60) (by omega) (by omega)).mp z
        omega
      refine ⟨.int (nI n + 1), am_up R 36 (upd (R 36) n a), am_up Z 28 (nI n + 1), am_up A 8 (upd (A 8) n a), am_up Y 4 (nI n + 1), ?_, ?_, ?_, ⟨rfl, ?_, ?_⟩, ?_⟩
      · simp only [d_X5_say, b_X5_say_0, b_X5_say_8, b_X5_say_11, b_X5_say_14, b_X5_say_22, b_X5_say_25, b_X5_say_35, d_X0_add, b_X0_add_0, b_X0_add_9, b_X0_add_11, b_X0_add_23, s_isIn, am_C_v, am_C_0, am_ue, if_true, if_false, eq_self, am_10, ite_not, Nat.reduceEqDiff, reduceIte, am_bI_t h1, en, if_pos l1, d_X1_set_21, am_rs_nI hn6 (by omega)]
      · simp only [d_X6_say, b_X6_say_0, b_X6_say_8, b_X6_say_11, b_X6_say_14, b_X6_say_23, b_X6_say_26, b_X6_say_36, s_in, am_C_v, am_C_0, am_ue, if_true, if_false, eq_self, am_10, ite_not, Nat.reduceEqDiff, reduceIte, am_bI_t h1, ← e1, en, if_neg l2, if_pos (am_in_nI hn6 (by omega)), am_cl (by omega : n < 2 ^ 31)]
      · exact (fun ii => match ii with | 0 => hI.1 0 | 1 => hI.1 1 | 2 => hI.1 2 | 3 => hI.1 3 | 4 => hI.1 4 | 5 => hI.1 5 | 6 => hI.1 6 | 7 => hI.1 7 | 8 => hI.1 8 | 9 => hI.1 9 | 10 => hI.1 10 | 11 => hI.1 11 | 12 => hI.1 12 | 13 => hI.1 13 | 14 => hI.1 14 | 15 => hI.1 15 | _ + 16 => trivial)
      · rw [am_up_s, nI_1]
        exact ⟨by rw [nI_toInt (by omega)]; omega, by rw [nI_toInt (by omega)]; omega⟩
      · intro i hi
        rw [am_up_s, am_up_s]
        by_cases e : i = n
        · subst e; rw [upd_s, upd_s]
        · rw [upd_n _ _ e, upd_n _ _ e]; exact hp i hi
      · exact am_IM_congr (fun k h _ => am_up_n R _ (by omega)) (fun k h _ => am_up_n Z _ (by omega)) rfl rfl rfl hI.2.2
  · refine ⟨.int (-2), R, Z, A, Y, ?_, ?_, hI⟩
    · simp only [d_X5_say, b_X5_say_0, b_X5_say_8, b_X5_say_11, b_X5_say_14, b_X5_say_22, b_X5_say_25, b_X5_say_35, s_isIn, am_C_v, am_C_0, am_ue, if_true, if_false, eq_self, am_10, ite_not, Nat.reduceEqDiff, reduceIte, am_bI_f h1]
    · simp only [d_X6_say, b_X6_say_0, b_X6_say_8, b_X6_say_11, b_X6_say_14, b_X6_say_23, b_X6_say_26, b_X6_say_36, s_in, am_C_v, am_C_0, am_ue, if_true, if_false, eq_self, am_10, ite_not, Nat.reduceEqDiff, reduceIte, am_bI_f h1]
theorem op_wipe (X : AMx) : am_OP X 57 112 [] := by
  intro R Z A Y hI
  obtain ⟨e1, r1, hp⟩ := hI.2.1
  refine ⟨.int (Z 28), R, am_up Z 28 0, A, am_up Y 4 0, ?_, ?_, ?_, ⟨rfl, ⟨by show (0 : Int) ≤ (0 : Int32).toInt; decide, by show (0 : Int32).toInt ≤ 60; decide⟩, hp⟩, ?_⟩
  · simp only [d_X5_wipe, b_X5_wipe_0]
  · simp only [d_X6_wipe, b_X6_wipe_0, e1]
  · exact (fun ii => match ii with | 0 => hI.1 0 | 1 => hI.1 1 | 2 => hI.1 2 | 3 => hI.1 3 | 4 => hI.1 4 | 5 => hI.1 5 | 6 => hI.1 6 | 7 => hI.1 7 | 8 => hI.1 8 | 9 => hI.1 9 | 10 => hI.1 10 | 11 => hI.1 11 | 12 => hI.1 12 | 13 => hI.1 13 | 14 => hI.1 14 | 15 => hI.1 15 | _ + 16 => trivial)
  · exact am_IM_congr (fun _ _ _ => rfl) (fun k h _ => am_up_n Z _ (by omega)) rfl rfl rfl hI.2.2
theorem op_forget (X : AMx) : am_OP X 71 138 [] := by
  intro R Z A Y hI
  refine ⟨.int (Z 5), R, am_up (am_up Z 5 0) 6 524287, A, am_up Y 3 0, ?_, ?_, ?_, am_inh_PD hI.2.1 rfl rfl rfl rfl, ?_⟩
  · simp only [d_X5_forget, b_X5_forget_0]
  · simp only [d_X6_forget, b_X6_forget_0, show Z 5 = Y 3 from (hI.1 5).1]
  · exact (fun ii => match ii with | 0 => hI.1 0 | 1 => hI.1 1 | 2 => hI.1 2 | 3 => hI.1 3 | 4 => hI.1 4 | 5 => ⟨rfl, ⟨by show (0 : Int) ≤ (0 : Int32).toInt; decide, by show (0 : Int32).toInt ≤ 8; decide⟩⟩ | 6 => ⟨⟨by show (0 : Int) ≤ (524287 : Int32).toInt; decide, by show (524287 : Int32).toInt ≤ 524287; decide⟩, fun v hv => ⟨fun _ i hi => absurd hi (Nat.not_lt_zero i), fun _ => (by decide +kernel : ∀ v, v < 19 → bt (524287 : Int32) v = true) v hv⟩⟩ | 7 => hI.1 7 | 8 => hI.1 8 | 9 => hI.1 9 | 10 => hI.1 10 | 11 => hI.1 11 | 12 => hI.1 12 | 13 => hI.1 13 | 14 => hI.1 14 | 15 => hI.1 15 | _ + 16 => trivial)
  · exact am_IM_congr (R := R) (Z := Z) (A := A) (fun _ _ _ => rfl) (fun k h _ => by rw [am_up_n _ _ (by omega), am_up_n _ _ (by omega)]) rfl rfl rfl hI.2.2
