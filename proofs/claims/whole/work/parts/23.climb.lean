/-! climb: two that come to the same; lowest terms. -/
/-- the common divisor, so many rounds away -/
def aw_gr : Nat → Nat → Nat → Nat → Prop
  | 0, a, b, g => b = 0 ∧ a = g
  | r + 1, a, b, g => b ≠ 0 ∧ aw_gr r b (a % b) g
theorem aw_gr_ex : ∀ n a b, b < 2 ^ n → ∃ r g, r ≤ 2 * n ∧ aw_gr r a b g
  | 0, a, b, h => ⟨0, a, Nat.le_refl _, by rw [Nat.pow_zero] at h; omega, rfl⟩
  | n + 1, a, b, h => by
    by_cases h0 : b = 0
    · exact ⟨0, a, Nat.zero_le _, h0, rfl⟩
    · have h1 : a % b < b := Nat.mod_lt _ (by omega)
      by_cases h2 : a % b = 0
      · exact ⟨1, b, by omega, h0, h2, rfl⟩
      · have h3 : b % (a % b) < 2 ^ n := by
          have e : (2 : Nat) ^ (n + 1) = 2 ^ n * 2 := Nat.pow_succ ..
          have h4 : b % (a % b) < a % b := Nat.mod_lt _ (by omega)
          by_cases h5 : 2 * (a % b) ≤ b
          · omega
          · have h6 : b % (a % b) = b - a % b := by
              rw [Nat.mod_eq_sub_mod (by omega), Nat.mod_eq_of_lt (by omega)]
            omega
        obtain ⟨r, g, hr, hg⟩ := aw_gr_ex n (a % b) (b % (a % b)) h3
        exact ⟨r + 2, g, by omega, h0, h2, hg⟩
theorem aw_gr_pos : ∀ {r a b g : Nat}, aw_gr r a b g → (0 < a ∨ 0 < b) → 0 < g
  | 0, a, b, g, h, h2 => by
    have h3 : b = 0 ∧ a = g := h
    omega
  | r + 1, a, b, g, h, _ => by
    have h3 : b ≠ 0 ∧ aw_gr r b (a % b) g := h
    exact aw_gr_pos h3.2 (Or.inl (by omega))
theorem aw_gr_lt : ∀ {r a b g B : Nat}, aw_gr r a b g → a < B → b < B → g < B
  | 0, a, b, g, B, h, h1, h2 => by
    have h3 : b = 0 ∧ a = g := h
    omega
  | r + 1, a, b, g, B, h, h1, h2 => by
    have h3 : b ≠ 0 ∧ aw_gr r b (a % b) g := h
    have h4 : a % b < b := Nat.mod_lt _ (by omega)
    exact aw_gr_lt h3.2 h2 (by omega)
theorem aw_l0 {a : Nat} (h : a < 2 ^ 63) : lN a = 0 ↔ a = 0 := pk_lEQ (b := 0) h (by omega)
theorem s_commonDivisor (X : AMx) (h : List AMc) {r a b g : Nat} (hg : aw_gr r a b g) (hr : r < 100) (ha : a < 2 ^ 62) (hb : b < 2 ^ 62) : am_D X 91 [.long (lN a), .long (lN b)] h = some (some (.long (lN g)), h) := by
  have key : ∀ r' a' b' k y9, aw_gr r' a' b' g → k + r' < 100 → a' < 2 ^ 62 → b' < 2 ^ 62 → am_E X AM_X5_commonDivisor 9 [some (.long (lN a)), none, some (.long (lN b)), none, some (.long (lN a')), none, some (.long (lN b')), none, some (.int (nI k)), y9, none] [] h = some (some (.long (lN g)), h) := by
    intro r'
    induction r' with
    | zero =>
      intro a' b' k y9 hg' hk h1 h2
      have h3 : b' = 0 ∧ a' = g := hg'
      obtain ⟨rfl, rfl⟩ := h3
      rw [b_X5_commonDivisor_9, if_neg (show ¬ (100 : Int32) ≤ nI k from nI_ge (a := k) (b := 100) (by omega) (by omega)), b_X5_commonDivisor_16, if_pos ((lg_cmp_eq _ _).mpr ((aw_l0 (by omega)).mpr rfl)), b_X5_commonDivisor_44]
    | succ r' ih =>
      intro a' b' k y9 hg' hk h1 h2
      have h3 : b' ≠ 0 ∧ aw_gr r' b' (a' % b') g := hg'
      have h4 : a' % b' < b' := Nat.mod_lt _ (by omega)
      have h5 : ¬ lN b' = 0 := fun z => h3.1 ((aw_l0 (by omega)).mp z)
      rw [b_X5_commonDivisor_9, if_neg (show ¬ (100 : Int32) ≤ nI k from nI_ge (a := k) (b := 100) (by omega) (by omega)), b_X5_commonDivisor_16, if_neg (fun z => h5 ((lg_cmp_eq _ _).mp z)), b_X5_commonDivisor_23, if_neg h5, b_X5_commonDivisor_28, pk_lRem (by omega) (by omega) (by omega), nI_1]
      exact ih b' (a' % b') (k + 1) _ h3.2 (by omega) h2 (by omega)
  rw [d_X5_commonDivisor, b_X5_commonDivisor_0]
  exact key r a b 0 none hg (by omega) ha hb
theorem s_lowestTerm (X : AMx) (h : List AMc) {r a b g : Nat} (hg : aw_gr r a b g) (hr : r < 100) (ha : a < 2 ^ 62) (hb : b < 2 ^ 62) (hb0 : 0 < b) (p : Int32) : am_D X 90 [.long (lN a), .long (lN b), .int p] h = some (some (.long (if p = 0 then lN a / lN g else lN b / lN g)), h) := by
  have hg0 := aw_gr_pos hg (Or.inr hb0)
  have hg1 := aw_gr_lt hg ha hb
  have h5 : ¬ lN g = 0 := fun z => by have := (aw_l0 (by omega)).mp z; omega
  rw [d_X5_lowestTerm, b_X5_lowestTerm_0, s_commonDivisor X h hg hr ha hb, am_C_v, b_X5_lowestTerm_5]
  by_cases hp : p = 0
  · rw [if_pos hp, if_pos hp, b_X5_lowestTerm_12, if_neg (fun z => h5 ((lg_cmp_eq _ _).mp z)), b_X5_lowestTerm_31, if_neg h5, b_X5_lowestTerm_36]
  · rw [if_neg hp, if_neg hp, b_X5_lowestTerm_16, if_neg (fun z => h5 ((lg_cmp_eq _ _).mp z)), b_X5_lowestTerm_31, if_neg h5, b_X5_lowestTerm_36]
theorem s_mpart (X : AMx) (h : List AMc) {r a b g : Nat} (hg : aw_gr r a b g) (ha : a < 2 ^ 62) (hb : b < 2 ^ 62) (hb0 : 0 < b) (p : Int32) : am_D X 148 [.long (lN a), .long (lN b), .int p] h = some (some (.long (if p = 0 then lN a / lN g else lN b / lN g)), h) := by
  have hg0 := aw_gr_pos hg (Or.inr hb0)
  have hg1 := aw_gr_lt hg ha hb
  have h5 : ¬ lN g = 0 := fun z => by have := (aw_l0 (by omega)).mp z; omega
  have key : ∀ r' a' b' y9, aw_gr r' a' b' g → a' < 2 ^ 62 → b' < 2 ^ 62 → am_E X AM_X6_part 6 [some (.long (lN a)), none, some (.long (lN b)), none, some (.int p), some (.long (lN a')), none, some (.long (lN b')), none, y9, none] [] h = some (some (.long (if p = 0 then lN a / lN g else lN b / lN g)), h) := by
    intro r'
    induction r' with
    | zero =>
      intro a' b' y9 hg' h1 h2
      have h3 : b' = 0 ∧ a' = g := hg'
      obtain ⟨rfl, rfl⟩ := h3
      rw [b_X6_part_6, if_pos ((lg_cmp_eq _ _).mpr ((aw_l0 (by omega)).mpr rfl)), b_X6_part_31]
      by_cases hp : p = 0
      · rw [if_pos hp, if_pos hp, b_X6_part_36, if_neg h5, b_X6_part_40]
      · rw [if_neg hp, if_neg hp, b_X6_part_43, if_neg h5, b_X6_part_47]
    | succ r' ih =>
      intro a' b' y9 hg' h1 h2
      have h3 : b' ≠ 0 ∧ aw_gr r' b' (a' % b') g := hg'
      have h4 : a' % b' < b' := Nat.mod_lt _ (by omega)
      have h6 : ¬ lN b' = 0 := fun z => h3.1 ((aw_l0 (by omega)).mp z)
      rw [b_X6_part_6, if_neg (fun z => h6 ((lg_cmp_eq _ _).mp z)), b_X6_part_13, if_neg h6, b_X6_part_18, pk_lRem (by omega) (by omega) (by omega)]
      exact ih b' (a' % b') _ h3.2 h2 (by omega)
  rw [d_X6_part, b_X6_part_0]
  exact key r a b none hg ha hb
/-- both towers, floor by floor -/
theorem l_climb (X : AMx) (R : Nat → Nat → Int32) (Z : Nat → Int32) (A : Nat → Nat → Int32) (Y : Nat → Int32) {v w t : Nat} (hv : v ≤ 99) (hw : w ≤ 9) (ht : t ≤ 10) (l2 l5 l6 : Int32) : ∀ f o u c y13 y15, f ≤ 8 → 0 < u → u * 10 ^ f ≤ 100000000 → o ≤ 171 * u → ∃ o' u' c' l12 z13 z15, 0 < u' ∧ u' ≤ 100000000 ∧ o' ≤ 171 * u' ∧ am_E X AM_X5_climb 84 [some (.ref 0), some (.int (nI v)), some (.int l2), some (.int (nI w)), some (.int (nI t)), some (.int l5), some (.int l6), some (.long (lN o)), none, some (.long (lN u)), none, some (.int c), some (.int (nI f + -1)), y13, none, y15, none] [] (am_WH R Z A Y) = am_E X AM_X5_climb 150 [some (.ref 0), some (.int (nI v)), some (.int l2), some (.int (nI w)), some (.int (nI t)), some (.int l5), some (.int l6), some (.long (lN o')), none, some (.long (lN u')), none, some (.int c'), some (.int l12), z13, none, z15, none] [] (am_WH R Z A Y) ∧ am_E X AM_X6_climb 84 [some (.ref 88), some (.int (nI v)), some (.int l2), some (.int (nI w)), some (.int (nI t)), some (.int l5), some (.int l6), some (.long (lN o)), none, some (.long (lN u)), none, some (.int c), some (.int (nI f + -1)), y13, none, y15, none] [] (am_WH R Z A Y) = am_E X AM_X6_climb 155 [some (.ref 88), some (.int (nI v)), some (.int l2), some (.int (nI w)), some (.int (nI t)), some (.int l5), some (.int l6), some (.long (lN o')), none, some (.long (lN u')), none, some (.int c'), some (.int l12), z13, none, z15, none] [] (am_WH R Z A Y) := by
  intro f
  induction f with
  | zero =>
    intro o u c y13 y15 hf hu0 hu ho
    refine ⟨o, u, c, nI 0 + -1, y13, y15, hu0, by rw [Nat.pow_zero] at hu; omega, ho, ?_, ?_⟩
    · rw [b_X5_climb_84, if_pos (show nI 0 + -1 < 0 by decide)]
    · rw [b_X6_climb_84, if_pos (show nI 0 + -1 < 0 by decide)]
  | succ f ih =>
    intro o u c y13 y15 hf hu0 hu ho
    have hu1 : u * 10 * 10 ^ f ≤ 100000000 := by
      rw [Nat.pow_succ] at hu
      rw [Nat.mul_assoc, Nat.mul_comm 10 (10 ^ f)]
      exact hu
    have hu2 : u * 10 ≤ 100000000 := Nat.le_trans (Nat.le_mul_of_pos_right _ (Nat.pow_pos (by omega))) hu1
    have hfw : f * w ≤ 7 * 9 := Nat.mul_le_mul (by omega) hw
    have hs : (v + f * w) * (u * 10) ≤ 171 * (u * 10) := Nat.mul_le_mul_right _ (by omega)
    have hk : (10 - t) * o ≤ 10 * o := Nat.mul_le_mul_right _ (by omega)
    have e1 : (10 : Int32) - nI t = nI (10 - t) := pk_sub (a := 10) (b := t) ht
    have e2 : nI v + nI f * nI w = nI (v + f * w) := by rw [pk_mul, nI_add]
    have e3 : (nI (10 - t)).toInt64 * lN o = lN ((10 - t) * o) := by rw [nI_l (by omega), lN_mul]
    have e4 : (nI (v + f * w)).toInt64 * (lN u * 10) = lN ((v + f * w) * (u * 10)) := by rw [nI_l (by omega), show (10 : Int64) = lN 10 from rfl, lN_mul, lN_mul]
    have e5 : lN u * 10 = lN (u * 10) := lN_mul u 10
    by_cases g : (v + f * w) * (u * 10) < (10 - t) * o
    · obtain ⟨o', u', c', l12, z13, z15, q1, q2, q3, q4, q5⟩ := ih ((10 - t) * o) (u * 10) 1 (some (.long (lN ((v + f * w) * (u * 10))))) (some (.long (lN ((10 - t) * o)))) (by omega) (by omega) hu1 (by omega)
      refine ⟨o', u', c', l12, z13, z15, q1, q2, q3, Eq.trans ?_ q4, Eq.trans ?_ q5⟩
      · rw [pk_m1, b_X5_climb_84, if_neg (nI_pos (by omega)), b_X5_climb_89, e1, e2, e3, e4, e5, if_neg (fun z => by have := (pk_lLE (by omega) (by omega)).mp ((lg_cmp_le _ _).mp z); omega), b_X5_climb_128, if_pos ((pk_lLT (by omega) (by omega)).mpr g)]
      · rw [pk_m1, b_X6_climb_84, if_neg (nI_pos (by omega)), b_X6_climb_89, e1, e2, e3, e4, e5, if_neg (fun z => by have := (pk_lLE (by omega) (by omega)).mp ((lg_cmp_le _ _).mp z); omega), b_X6_climb_128, if_neg (by decide), b_X6_climb_140]
    · obtain ⟨o', u', c', l12, z13, z15, q1, q2, q3, q4, q5⟩ := ih ((v + f * w) * (u * 10)) (u * 10) 0 (some (.long (lN ((v + f * w) * (u * 10))))) (some (.long (lN ((10 - t) * o)))) (by omega) (by omega) hu1 hs
      refine ⟨o', u', c', l12, z13, z15, q1, q2, q3, Eq.trans ?_ q4, Eq.trans ?_ q5⟩
      · rw [pk_m1, b_X5_climb_84, if_neg (nI_pos (by omega)), b_X5_climb_89, e1, e2, e3, e4, e5, if_pos ((lg_cmp_le _ _).mpr ((pk_lLE (by omega) (by omega)).mpr (by omega))), b_X5_climb_132, if_neg (fun z => g ((pk_lLT (by omega) (by omega)).mp z))]
      · rw [pk_m1, b_X6_climb_84, if_neg (nI_pos (by omega)), b_X6_climb_89, e1, e2, e3, e4, e5, if_pos ((lg_cmp_le _ _).mpr ((pk_lLE (by omega) (by omega)).mpr (by omega))), b_X6_climb_132, if_pos rfl, b_X6_climb_145]
theorem op_climb (X : AMx) (a b c d e p : Int32) : am_OP X 76 149 [.int a, .int b, .int c, .int d, .int e, .int p] := by
  intro R Z A Y hI
  by_cases h1 : 0 ≤ a ∧ a ≤ 99
  · by_cases h2 : 0 ≤ b ∧ b ≤ 8
    · by_cases h3 : 1 ≤ c ∧ c ≤ 9
      · by_cases h4 : 0 ≤ d ∧ d ≤ 10
        · by_cases h5 : 0 ≤ e ∧ e ≤ 1
          · by_cases h6 : 0 ≤ p ∧ p ≤ 1
            · have h3' : 0 ≤ c ∧ c ≤ 9 := ⟨Int32.le_trans (by decide) h3.1, h3.2⟩
              obtain ⟨v, hv, rfl⟩ := am_ix h1 (n := 100) (by decide) (by omega)
              obtain ⟨m, hm, rfl⟩ := am_ix h2 (n := 9) (by decide) (by omega)
              obtain ⟨w, hw, rfl⟩ := am_ix h3' (n := 10) (by decide) (by omega)
              obtain ⟨t, ht, rfl⟩ := am_ix h4 (n := 11) (by decide) (by omega)
              have hmw : m * w ≤ 8 * 9 := Nat.mul_le_mul (by omega) (by omega)
              have hp : (1 : Nat) * 10 ^ m ≤ 100000000 := by
                rw [Nat.one_mul]
                exact Nat.le_trans (Nat.pow_le_pow_right (n := 10) (by omega) (show m ≤ 8 by omega)) (by decide)
              obtain ⟨o', u', c', l12, z13, z15, q1, q2, q3, q4, q5⟩ := l_climb X R Z A Y (v := v) (w := w) (t := t) (by omega) (by omega) (by omega) (nI m) e p m (v + m * w) 1 0 none none (by omega) (by omega) hp (by omega)
              have i1 : (nI v + nI m * nI w).toInt64 = lN (v + m * w) := by rw [pk_mul, nI_add, nI_l (by omega)]
              have i2 : nI m - 1 = nI m + -1 := Int32.sub_eq_add_neg ..
              obtain ⟨r, g, hr, hg⟩ := aw_gr_ex 27 o' u' (by omega)
              refine ⟨.long (if e = 1 then (if c' = 0 then 0 else 1) else if p = 0 then lN o' / lN g else lN u' / lN g), R, Z, A, Y, ?_, ?_, hI⟩
              · rw [d_X5_climb, b_X5_climb_0, s_isIn, am_C_v, am_bI_t h1, b_X5_climb_7, if_neg (by decide), b_X5_climb_10, s_isIn, am_C_v, am_bI_t h2, b_X5_climb_17, if_neg (by decide), b_X5_climb_20, s_isIn, am_C_v, am_bI_t h3, b_X5_climb_27, if_neg (by decide), b_X5_climb_30, s_isIn, am_C_v, am_bI_t h4, b_X5_climb_38, if_neg (by decide), b_X5_climb_41, s_isIn, am_C_v, am_bI_t h5, b_X5_climb_48, if_neg (by decide), b_X5_climb_51, s_isIn, am_C_v, am_bI_t h6, b_X5_climb_58, if_neg (by decide), b_X5_climb_65, i1, i2]
                refine Eq.trans q4 ?_
                rw [b_X5_climb_150]
                by_cases g1 : e = 1
                · rw [if_pos g1, if_pos g1, b_X5_climb_156]
                  by_cases g2 : c' = 0
                  · rw [if_pos g2, if_pos g2, b_X5_climb_165]
                  · rw [if_neg g2, if_neg g2, b_X5_climb_161]
                · rw [if_neg g1, if_neg g1, b_X5_climb_167, s_lowestTerm X _ hg (by omega) (by omega) (by omega) q1, am_C_v, b_X5_climb_176]
              · rw [d_X6_climb, b_X6_climb_0, s_in, am_C_v, am_bI_t h1, b_X6_climb_7, if_neg (by decide), b_X6_climb_10, s_in, am_C_v, am_bI_t h2, b_X6_climb_17, if_neg (by decide), b_X6_climb_20, s_in, am_C_v, am_bI_t h3, b_X6_climb_27, if_neg (by decide), b_X6_climb_30, s_in, am_C_v, am_bI_t h4, b_X6_climb_38, if_neg (by decide), b_X6_climb_41, s_in, am_C_v, am_bI_t h5, b_X6_climb_48, if_neg (by decide), b_X6_climb_51, s_in, am_C_v, am_bI_t h6, b_X6_climb_58, if_neg (by decide), b_X6_climb_65, i1, i2]
                refine Eq.trans q5 ?_
                rw [b_X6_climb_155]
                by_cases g1 : e = 1
                · rw [if_pos g1, if_pos g1, b_X6_climb_161]
                  by_cases g2 : c' = 0
                  · rw [if_pos g2, if_pos g2, b_X6_climb_170]
                  · rw [if_neg g2, if_neg g2, b_X6_climb_166]
                · rw [if_neg g1, if_neg g1, b_X6_climb_174, s_mpart X _ hg (by omega) (by omega) q1, am_C_v, b_X6_climb_183]
            · refine ⟨.long (-1000000000000000002), R, Z, A, Y, ?_, ?_, hI⟩
              · simp only [d_X5_climb, b_X5_climb_0, b_X5_climb_7, b_X5_climb_10, b_X5_climb_17, b_X5_climb_20, b_X5_climb_27, b_X5_climb_30, b_X5_climb_38, b_X5_climb_41, b_X5_climb_48, b_X5_climb_51, b_X5_climb_58, b_X5_climb_61, b_X5_climb_65, b_X5_climb_89, b_X5_climb_128, b_X5_climb_132, b_X5_climb_150, b_X5_climb_156, b_X5_climb_161, b_X5_climb_165, b_X5_climb_167, b_X5_climb_176, s_isIn, am_C_v, am_C_0, am_ue, if_true, if_false, eq_self, am_10, ite_not, Nat.reduceEqDiff, reduceIte, am_bI_t h1, am_bI_t h2, am_bI_t h3, am_bI_t h4, am_bI_t h5, am_bI_f h6]
              · simp only [d_X6_climb, b_X6_climb_0, b_X6_climb_7, b_X6_climb_10, b_X6_climb_17, b_X6_climb_20, b_X6_climb_27, b_X6_climb_30, b_X6_climb_38, b_X6_climb_41, b_X6_climb_48, b_X6_climb_51, b_X6_climb_58, b_X6_climb_61, b_X6_climb_65, b_X6_climb_89, b_X6_climb_128, b_X6_climb_132, b_X6_climb_140, b_X6_climb_145, b_X6_climb_155, b_X6_climb_161, b_X6_climb_166, b_X6_climb_170, b_X6_climb_174, b_X6_climb_183, s_in, am_C_v, am_C_0, am_ue, if_true, if_false, eq_self, am_10, ite_not, Nat.reduceEqDiff, reduceIte, am_bI_t h1, am_bI_t h2, am_bI_t h3, am_bI_t h4, am_bI_t h5, am_bI_f h6]
          · refine ⟨.long (-1000000000000000002), R, Z, A, Y, ?_, ?_, hI⟩
            · simp only [d_X5_climb, b_X5_climb_0, b_X5_climb_7, b_X5_climb_10, b_X5_climb_17, b_X5_climb_20, b_X5_climb_27, b_X5_climb_30, b_X5_climb_38, b_X5_climb_41, b_X5_climb_48, b_X5_climb_51, b_X5_climb_58, b_X5_climb_61, b_X5_climb_65, b_X5_climb_89, b_X5_climb_128, b_X5_climb_132, b_X5_climb_150, b_X5_climb_156, b_X5_climb_161, b_X5_climb_165, b_X5_climb_167, b_X5_climb_176, s_isIn, am_C_v, am_C_0, am_ue, if_true, if_false, eq_self, am_10, ite_not, Nat.reduceEqDiff, reduceIte, am_bI_t h1, am_bI_t h2, am_bI_t h3, am_bI_t h4, am_bI_f h5]
            · simp only [d_X6_climb, b_X6_climb_0, b_X6_climb_7, b_X6_climb_10, b_X6_climb_17, b_X6_climb_20, b_X6_climb_27, b_X6_climb_30, b_X6_climb_38, b_X6_climb_41, b_X6_climb_48, b_X6_climb_51, b_X6_climb_58, b_X6_climb_61, b_X6_climb_65, b_X6_climb_89, b_X6_climb_128, b_X6_climb_132, b_X6_climb_140, b_X6_climb_145, b_X6_climb_155, b_X6_climb_161, b_X6_climb_166, b_X6_climb_170, b_X6_climb_174, b_X6_climb_183, s_in, am_C_v, am_C_0, am_ue, if_true, if_false, eq_self, am_10, ite_not, Nat.reduceEqDiff, reduceIte, am_bI_t h1, am_bI_t h2, am_bI_t h3, am_bI_t h4, am_bI_f h5]
        · refine ⟨.long (-1000000000000000002), R, Z, A, Y, ?_, ?_, hI⟩
          · simp only [d_X5_climb, b_X5_climb_0, b_X5_climb_7, b_X5_climb_10, b_X5_climb_17, b_X5_climb_20, b_X5_climb_27, b_X5_climb_30, b_X5_climb_38, b_X5_climb_41, b_X5_climb_48, b_X5_climb_51, b_X5_climb_58, b_X5_climb_61, b_X5_climb_65, b_X5_climb_89, b_X5_climb_128, b_X5_climb_132, b_X5_climb_150, b_X5_climb_156, b_X5_climb_161, b_X5_climb_165, b_X5_climb_167, b_X5_climb_176, s_isIn, am_C_v, am_C_0, am_ue, if_true, if_false, eq_self, am_10, ite_not, Nat.reduceEqDiff, reduceIte, am_bI_t h1, am_bI_t h2, am_bI_t h3, am_bI_f h4]
          · simp only [d_X6_climb, b_X6_climb_0, b_X6_climb_7, b_X6_climb_10, b_X6_climb_17, b_X6_climb_20, b_X6_climb_27, b_X6_climb_30, b_X6_climb_38, b_X6_climb_41, b_X6_climb_48, b_X6_climb_51, b_X6_climb_58, b_X6_climb_61, b_X6_climb_65, b_X6_climb_89, b_X6_climb_128, b_X6_climb_132, b_X6_climb_140, b_X6_climb_145, b_X6_climb_155, b_X6_climb_161, b_X6_climb_166, b_X6_climb_170, b_X6_climb_174, b_X6_climb_183, s_in, am_C_v, am_C_0, am_ue, if_true, if_false, eq_self, am_10, ite_not, Nat.reduceEqDiff, reduceIte, am_bI_t h1, am_bI_t h2, am_bI_t h3, am_bI_f h4]
      · refine ⟨.long (-1000000000000000002), R, Z, A, Y, ?_, ?_, hI⟩
        · simp only [d_X5_climb, b_X5_climb_0, b_X5_climb_7, b_X5_climb_10, b_X5_climb_17, b_X5_climb_20, b_X5_climb_27, b_X5_climb_30, b_X5_climb_38, b_X5_climb_41, b_X5_climb_48, b_X5_climb_51, b_X5_climb_58, b_X5_climb_61, b_X5_climb_65, b_X5_climb_89, b_X5_climb_128, b_X5_climb_132, b_X5_climb_150, b_X5_climb_156, b_X5_climb_161, b_X5_climb_165, b_X5_climb_167, b_X5_climb_176, s_isIn, am_C_v, am_C_0, am_ue, if_true, if_false, eq_self, am_10, ite_not, Nat.reduceEqDiff, reduceIte, am_bI_t h1, am_bI_t h2, am_bI_f h3]
        · simp only [d_X6_climb, b_X6_climb_0, b_X6_climb_7, b_X6_climb_10, b_X6_climb_17, b_X6_climb_20, b_X6_climb_27, b_X6_climb_30, b_X6_climb_38, b_X6_climb_41, b_X6_climb_48, b_X6_climb_51, b_X6_climb_58, b_X6_climb_61, b_X6_climb_65, b_X6_climb_89, b_X6_climb_128, b_X6_climb_132, b_X6_climb_140, b_X6_climb_145, b_X6_climb_155, b_X6_climb_161, b_X6_climb_166, b_X6_climb_170, b_X6_climb_174, b_X6_climb_183, s_in, am_C_v, am_C_0, am_ue, if_true, if_false, eq_self, am_10, ite_not, Nat.reduceEqDiff, reduceIte, am_bI_t h1, am_bI_t h2, am_bI_f h3]
    · refine ⟨.long (-1000000000000000002), R, Z, A, Y, ?_, ?_, hI⟩
      · simp only [d_X5_climb, b_X5_climb_0, b_X5_climb_7, b_X5_climb_10, b_X5_climb_17, b_X5_climb_20, b_X5_climb_27, b_X5_climb_30, b_X5_climb_38, b_X5_climb_41, b_X5_climb_48, b_X5_climb_51, b_X5_climb_58, b_X5_climb_61, b_X5_climb_65, b_X5_climb_89, b_X5_climb_128, b_X5_climb_132, b_X5_climb_150, b_X5_climb_156, b_X5_climb_161, b_X5_climb_165, b_X5_climb_167, b_X5_climb_176, s_isIn, am_C_v, am_C_0, am_ue, if_true, if_false, eq_self, am_10, ite_not, Nat.reduceEqDiff, reduceIte, am_bI_t h1, am_bI_f h2]
      · simp only [d_X6_climb, b_X6_climb_0, b_X6_climb_7, b_X6_climb_10, b_X6_climb_17, b_X6_climb_20, b_X6_climb_27, b_X6_climb_30, b_X6_climb_38, b_X6_climb_41, b_X6_climb_48, b_X6_climb_51, b_X6_climb_58, b_X6_climb_61, b_X6_climb_65, b_X6_climb_89, b_X6_climb_128, b_X6_climb_132, b_X6_climb_140, b_X6_climb_145, b_X6_climb_155, b_X6_climb_161, b_X6_climb_166, b_X6_climb_170, b_X6_climb_174, b_X6_climb_183, s_in, am_C_v, am_C_0, am_ue, if_true, if_false, eq_self, am_10, ite_not, Nat.reduceEqDiff, reduceIte, am_bI_t h1, am_bI_f h2]
  · refine ⟨.long (-1000000000000000002), R, Z, A, Y, ?_, ?_, hI⟩
    · simp only [d_X5_climb, b_X5_climb_0, b_X5_climb_7, b_X5_climb_10, b_X5_climb_17, b_X5_climb_20, b_X5_climb_27, b_X5_climb_30, b_X5_climb_38, b_X5_climb_41, b_X5_climb_48, b_X5_climb_51, b_X5_climb_58, b_X5_climb_61, b_X5_climb_65, b_X5_climb_89, b_X5_climb_128, b_X5_climb_132, b_X5_climb_150, b_X5_climb_156, b_X5_climb_161, b_X5_climb_165, b_X5_climb_167, b_X5_climb_176, s_isIn, am_C_v, am_C_0, am_ue, if_true, if_false, eq_self, am_10, ite_not, Nat.reduceEqDiff, reduceIte, am_bI_f h1]
    · simp only [d_X6_climb, b_X6_climb_0, b_X6_climb_7, b_X6_climb_10, b_X6_climb_17, b_X6_climb_20, b_X6_climb_27, b_X6_climb_30, b_X6_climb_38, b_X6_climb_41, b_X6_climb_48, b_X6_climb_51, b_X6_climb_58, b_X6_climb_61, b_X6_climb_65, b_X6_climb_89, b_X6_climb_128, b_X6_climb_132, b_X6_climb_140, b_X6_climb_145, b_X6_climb_155, b_X6_climb_161, b_X6_climb_166, b_X6_climb_170, b_X6_climb_174, b_X6_climb_183, s_in, am_C_v, am_C_0, am_ue, if_true, if_false, eq_self, am_10, ite_not, Nat.reduceEqDiff, reduceIte, am_bI_f h1]
