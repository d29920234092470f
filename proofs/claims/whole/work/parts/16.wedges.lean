/-! wedges, meet. -/
theorem am_absI {x : Int32} (h : -2147483648 < x.toInt) : ((if (0 : Int32) ≤ x then x else (0 : Int32) - x) : Int32).toInt = x.toInt.natAbs := by
  by_cases g : (0 : Int32) ≤ x
  · rw [if_pos g]
    rw [Int32.le_iff_toInt_le, Int32.toInt_zero] at g
    omega
  · rw [if_neg g]
    rw [Int32.le_iff_toInt_le, Int32.toInt_zero] at g
    have := x.toInt_lt
    rw [am_sub (by rw [Int32.toInt_zero]; omega) (by rw [Int32.toInt_zero]; omega), Int32.toInt_zero]
    omega
/-- the first of the nearest places, so far -/
def am_bst (P : Nat → Bool) (D : Nat → Nat) : Nat → Option Nat
  | 0 => none
  | k + 1 => match am_bst P D k with
    | none => if P k = true then some k else none
    | some b => if P k = true ∧ D k < D b then some k else some b
theorem am_bst_none {P : Nat → Bool} {D : Nat → Nat} : ∀ {k : Nat}, (∀ j, j < k → P j = false) → am_bst P D k = none
  | 0, _ => rfl
  | k + 1, h => by
    rw [am_bst, am_bst_none (fun j hj => h j (by omega))]
    show (if P k = true then some k else none) = none
    rw [h k (by omega), if_neg (by decide)]
theorem am_bst_s {P : Nat → Bool} {D : Nat → Nat} {k b : Nat} (h : am_bst P D k = some b) : am_bst P D (k + 1) = if P k = true ∧ D k < D b then some k else some b := by rw [am_bst, h]
theorem am_bst_n {P : Nat → Bool} {D : Nat → Nat} {k : Nat} (h : am_bst P D k = none) : am_bst P D (k + 1) = if P k = true then some k else none := by rw [am_bst, h]
theorem am_bst_le {P : Nat → Bool} {D : Nat → Nat} : ∀ {k b : Nat}, am_bst P D k = some b → b < k ∧ P b = true
  | 0, b, h => by cases h
  | k + 1, b, h => by
    cases e : am_bst P D k with
    | none =>
      rw [am_bst_n e] at h
      by_cases g : P k = true
      · rw [if_pos g] at h
        obtain rfl := Option.some.inj h
        exact ⟨by omega, g⟩
      · rw [if_neg g] at h; cases h
    | some c =>
      have ih := am_bst_le e
      rw [am_bst_s e] at h
      by_cases g : P k = true ∧ D k < D c
      · rw [if_pos g] at h
        obtain rfl := Option.some.inj h
        exact ⟨by omega, g.1⟩
      · rw [if_neg g] at h
        obtain rfl := Option.some.inj h
        exact ⟨by omega, ih.2⟩
theorem am_bst_cong {P Q : Nat → Bool} {D : Nat → Nat} : ∀ {k : Nat}, (∀ j, j < k → P j = Q j) → am_bst P D k = am_bst Q D k
  | 0, _ => rfl
  | k + 1, h => by rw [am_bst, am_bst, am_bst_cong (fun j hj => h j (by omega)), h k (by omega)]
theorem am_bst_up {P : Nat → Bool} {D : Nat → Nat} {n : Nat} (h : ∀ j, n ≤ j → P j = false) : ∀ d, am_bst P D (n + d) = am_bst P D n
  | 0 => rfl
  | d + 1 => by
    have ih := am_bst_up (D := D) h d
    show am_bst P D (n + d + 1) = _
    cases e : am_bst P D (n + d) with
    | none => rw [am_bst_n e, h (n + d) (by omega), if_neg (by decide), ← ih, e]
    | some b => rw [am_bst_s e, h (n + d) (by omega), if_neg (by simp), ← ih, e]
/-- how far the lean of a place is from f -/
def am_far (f : Int32) (k : Nat) : Nat := ((k : Int) - 9 - f.toInt).natAbs
theorem am_far_c {f : Int32} (hf : am_rn f (-9) 9) {k : Nat} (hk : k < 32) : ((if (0 : Int32) ≤ nI k - (f + 9) then nI k - (f + 9) else (0 : Int32) - (nI k - (f + 9))) : Int32).toInt = am_far f k := by
  have e9 : (9 : Int32).toInt = 9 := rfl
  have e1 : (f + 9).toInt = f.toInt + 9 := am_add (by omega) (by omega)
  have e0 : (nI k).toInt = k := nI_toInt (by omega)
  have e2 : (nI k - (f + 9)).toInt = k - (f.toInt + 9) := by rw [am_sub (by omega) (by omega), e0, e1]
  rw [am_absI (by omega), e2]
  unfold am_far
  omega
theorem s_nearestOf (X : AMx) (h : List AMc) {x f : Int32} (hf : am_rn f (-9) 9) {b : Nat} (hx : am_bst (bt x) (am_far f) 32 = some b) : am_D X 86 [.int x, .int (f + 9)] h = some (some (.int (nI b)), h) := by
  obtain ⟨i, hi, h1, h2⟩ := fb_first (p := fun i => bt x i = true) (n := 32) ⟨b, am_bst_le hx⟩
  have h2' : ∀ j, j < i → bt x j = false := fun j hj => by
    cases e : bt x j
    · rfl
    · exact absurd e (h2 j hj)
  have e0 : am_bst (bt x) (am_far f) (i + 1) = some i := by rw [am_bst_n (am_bst_none h2'), if_pos h1]
  rw [d_X5_nearestOf, b_X5_nearestOf_0, s_leastOf X h hi h1 h2', am_C_v, b_X5_nearestOf_4, nI_1]
  have key : ∀ d k c, k + d = 32 → am_bst (bt x) (am_far f) k = some c → am_E X AM_X5_nearestOf 9 [some (.int x), some (.int (f + 9)), some (.int (nI c)), some (.int (nI k))] [] h = some (some (.int (nI b)), h) := by
    intro d
    induction d with
    | zero =>
      intro k c hk hc
      obtain rfl : k = 32 := by omega
      rw [b_X5_nearestOf_9, if_pos (show (32 : Int32) ≤ nI 32 from Int32.le_refl _), b_X5_nearestOf_46]
      rw [hx] at hc
      rw [Option.some.inj hc]
    | succ d ih =>
      intro k c hk hc
      have hcl := (am_bst_le hc).1
      have hn := am_bst_s hc
      rw [b_X5_nearestOf_9, if_neg (show ¬ (32 : Int32) ≤ nI k from nI_ge (a := k) (b := 32) (by omega) (by omega)), b_X5_nearestOf_15, s_has, am_C_v, b_X5_nearestOf_20]
      by_cases g1 : bt x k = true
      · rw [am_bI_t ((am_hs_nI (by omega)).mpr g1), if_neg (by decide), b_X5_nearestOf_23]
        by_cases g2 : am_far f k < am_far f c
        · rw [if_neg (by rw [Int32.le_iff_toInt_le, am_far_c hf (by omega), am_far_c hf (by omega)]; omega), b_X5_nearestOf_38, nI_1]
          exact ih (k + 1) k (by omega) (by rw [hn, if_pos ⟨g1, g2⟩])
        · rw [if_pos (by rw [Int32.le_iff_toInt_le, am_far_c hf (by omega), am_far_c hf (by omega)]; omega), b_X5_nearestOf_40, nI_1]
          exact ih (k + 1) c (by omega) (by rw [hn, if_neg (fun z => g2 z.2)])
      · rw [am_bI_f (fun z => g1 ((am_hs_nI (by omega)).mp z)), if_pos rfl, b_X5_nearestOf_40, nI_1]
        exact ih (k + 1) c (by omega) (by rw [hn, if_neg (fun z => g1 z.1)])
  exact key (31 - i) (i + 1) i (by omega) e0
/-- the reference's loop of wedges -/
theorem am_far_m {f : Int32} (hf : am_rn f (-9) 9) {k : Nat} (hk : k < 19) : ((f < nI k - 9) → nI k - 9 - f = nI (am_far f k)) ∧ (¬ (f < nI k - 9) → f - (nI k - 9) = nI (am_far f k)) := by
  have e := am_ln_int (k := k) (by omega)
  have hb : am_far f k < 100 := by unfold am_far; omega
  constructor
  · intro h
    rw [Int32.lt_iff_toInt_lt, e] at h
    apply Int32.toInt_inj.mp
    rw [am_sub (by omega) (by omega), nI_toInt (by omega), e]
    unfold am_far
    omega
  · intro h
    rw [Int32.lt_iff_toInt_lt, e] at h
    apply Int32.toInt_inj.mp
    rw [am_sub (by omega) (by omega), nI_toInt (by omega), e]
    unfold am_far
    omega
def am_w4 (f : Int32) : Option Nat → Int32
  | none => 1000000
  | some b => nI (am_far f b)
def am_w5 : Option Nat → Int32
  | none => -6
  | some b => nI b - 9 + 10
theorem l_mwedges (X : AMx) (R : Nat → Nat → Int32) (Z : Nat → Int32) (A : Nat → Nat → Int32) (Y : Nat → Int32) {s b : Int32} {w : Nat} (hw : w < 8) (hcr : ∀ k, k < 7 → am_rn (A 0 k) 0 2) (hdn : ∀ c, c < 3 → am_rn (A 2 c) (-9) 9) (hbe : am_rn (Y 1) 0 18) (hf : am_rn (A 0 (14 + w)) (-9) 9) : am_E X AM_X6_wedges 58 [some (.ref 88), some (.int (nI w)), some (.int s), some (.int b), some (.int 1000000), some (.int (-6)), some (.int (-9)), none, none] [] (am_WH R Z A Y) = some (some (.int (if am_w5 (am_bst (fun k => decide (am_bA (Y 1) (A 2) (A 0) s (nI k - 9))) (am_far (A 0 (14 + w))) 19) < 0 then am_w5 (am_bst (fun k => decide (am_bA (Y 1) (A 2) (A 0) s (nI k - 9))) (am_far (A 0 (14 + w))) 19) else if b = 1 then am_w5 (am_bst (fun k => decide (am_bA (Y 1) (A 2) (A 0) s (nI k - 9))) (am_far (A 0 (14 + w))) 19) else am_w4 (A 0 (14 + w)) (am_bst (fun k => decide (am_bA (Y 1) (A 2) (A 0) s (nI k - 9))) (am_far (A 0 (14 + w))) 19))), am_WH R Z A Y) := by
  generalize hP : (fun k => decide (am_bA (Y 1) (A 2) (A 0) s (nI k - 9))) = P
  have hPk : ∀ k, P k = decide (am_bA (Y 1) (A 2) (A 0) s (nI k - 9)) := fun k => by rw [← hP]
  have key : ∀ d k y7 y8, k + d = 19 → am_E X AM_X6_wedges 58 [some (.ref 88), some (.int (nI w)), some (.int s), some (.int b), some (.int (am_w4 (A 0 (14 + w)) (am_bst P (am_far (A 0 (14 + w))) k))), some (.int (am_w5 (am_bst P (am_far (A 0 (14 + w))) k))), some (.int (nI k - 9)), y7, y8] [] (am_WH R Z A Y) = some (some (.int (if am_w5 (am_bst P (am_far (A 0 (14 + w))) 19) < 0 then am_w5 (am_bst P (am_far (A 0 (14 + w))) 19) else if b = 1 then am_w5 (am_bst P (am_far (A 0 (14 + w))) 19) else am_w4 (A 0 (14 + w)) (am_bst P (am_far (A 0 (14 + w))) 19))), am_WH R Z A Y) := by
    intro d
    induction d with
    | zero =>
      intro k y7 y8 hk
      obtain rfl : k = 19 := by omega
      rw [b_X6_wedges_58, if_pos (show (10 : Int32) ≤ nI 19 - 9 by decide), b_X6_wedges_169]
      by_cases g : am_w5 (am_bst P (am_far (A 0 (14 + w))) 19) < 0
      · rw [if_pos g, if_pos g, b_X6_wedges_179]
      · rw [if_neg g, if_neg g, b_X6_wedges_174]
        by_cases g2 : b = 1
        · rw [if_pos g2, if_pos g2, b_X6_wedges_179]
        · rw [if_neg g2, if_neg g2, b_X6_wedges_184]
    | succ d ih =>
      intro k y7 y8 hk
      have hk19 : k < 19 := by omega
      have hfm := am_far_m hf hk19
      have hfb : am_far (A 0 (14 + w)) k < 100 := by unfold am_far; omega
      have tail : ∀ y8, am_E X AM_X6_wedges 115 [some (.ref 88), some (.int (nI w)), some (.int s), some (.int b), some (.int (am_w4 (A 0 (14 + w)) (am_bst P (am_far (A 0 (14 + w))) k))), some (.int (am_w5 (am_bst P (am_far (A 0 (14 + w))) k))), some (.int (nI k - 9)), some (.int (nI (am_far (A 0 (14 + w)) k))), y8] [.int (am_bI (am_bA (Y 1) (A 2) (A 0) s (nI k - 9)))] (am_WH R Z A Y) = some (some (.int (if am_w5 (am_bst P (am_far (A 0 (14 + w))) 19) < 0 then am_w5 (am_bst P (am_far (A 0 (14 + w))) 19) else if b = 1 then am_w5 (am_bst P (am_far (A 0 (14 + w))) 19) else am_w4 (A 0 (14 + w)) (am_bst P (am_far (A 0 (14 + w))) 19))), am_WH R Z A Y) := by
        intro y8
        rw [b_X6_wedges_115]
        by_cases g : am_bA (Y 1) (A 2) (A 0) s (nI k - 9)
        · have gP : P k = true := by rw [hPk, decide_eq_true g]
          rw [am_bI_t g, if_neg (by decide), b_X6_wedges_118]
          cases e : am_bst P (am_far (A 0 (14 + w))) k with
          | none =>
            rw [if_neg (show ¬ am_w4 (A 0 (14 + w)) none ≤ nI (am_far (A 0 (14 + w)) k) by rw [Int32.le_iff_toInt_le, nI_toInt (by omega)]; show ¬ (1000000 : Int) ≤ _; omega), b_X6_wedges_125, if_neg (by decide), b_X6_wedges_137, if_neg (by decide), b_X6_wedges_154, am_ln_1 hk19]
            have ih' := ih (k + 1) (some (.int (nI (am_far (A 0 (14 + w)) k)))) (some (.int 1)) (by omega)
            rw [am_bst_n e, if_pos gP] at ih'
            exact ih'
          | some c =>
            have hc := am_bst_le e
            have hcb : am_far (A 0 (14 + w)) c < 100 := by unfold am_far; omega
            by_cases g2 : am_far (A 0 (14 + w)) k < am_far (A 0 (14 + w)) c
            · rw [if_neg (show ¬ am_w4 (A 0 (14 + w)) (some c) ≤ nI (am_far (A 0 (14 + w)) k) by show ¬ nI _ ≤ _; rw [Int32.le_iff_toInt_le, nI_toInt (by omega), nI_toInt (by omega)]; omega), b_X6_wedges_125, if_neg (by decide), b_X6_wedges_137, if_neg (by decide), b_X6_wedges_154, am_ln_1 hk19]
              have ih' := ih (k + 1) (some (.int (nI (am_far (A 0 (14 + w)) k)))) (some (.int 1)) (by omega)
              rw [am_bst_s e, if_pos ⟨gP, g2⟩] at ih'
              exact ih'
            · rw [if_pos (show am_w4 (A 0 (14 + w)) (some c) ≤ nI (am_far (A 0 (14 + w)) k) by show nI _ ≤ _; rw [Int32.le_iff_toInt_le, nI_toInt (by omega), nI_toInt (by omega)]; omega), b_X6_wedges_129, if_pos rfl, b_X6_wedges_145, if_pos rfl, b_X6_wedges_159, am_ln_1 hk19]
              have ih' := ih (k + 1) (some (.int (nI (am_far (A 0 (14 + w)) k)))) (some (.int 0)) (by omega)
              rw [am_bst_s e, if_neg (fun z => g2 z.2)] at ih'
              exact ih'
        · have gP : ¬ P k = true := by rw [hPk]; simp [g]
          rw [am_bI_f g, if_pos rfl, b_X6_wedges_129, if_pos rfl, b_X6_wedges_145, if_pos rfl, b_X6_wedges_159, am_ln_1 hk19]
          have ih' := ih (k + 1) (some (.int (nI (am_far (A 0 (14 + w)) k)))) (some (.int 0)) (by omega)
          have e2 : am_bst P (am_far (A 0 (14 + w))) (k + 1) = am_bst P (am_far (A 0 (14 + w))) k := by
            cases e : am_bst P (am_far (A 0 (14 + w))) k with
            | none => rw [am_bst_n e, if_neg gP]
            | some c => rw [am_bst_s e, if_neg (fun z => gP z.1)]
          rw [e2] at ih'
          exact ih'
      rw [b_X6_wedges_58, if_neg ((by decide +kernel : ∀ k, k < 19 → ¬ (10 : Int32) ≤ nI k - 9) k hk19), b_X6_wedges_65, am_a14, if_pos (am_in_nI (n := 32) (i := 14 + w) (by omega) (by omega)), am_cl (by omega), b_X6_wedges_76]
      by_cases g : A 0 (14 + w) < nI k - 9
      · rw [if_neg (Int32.not_le.mpr g), b_X6_wedges_79, am_a14, if_pos (am_in_nI (n := 32) (i := 14 + w) (by omega) (by omega)), am_cl (by omega), b_X6_wedges_90, hfm.1 g, s_bearsAll X R Z A Y hcr hdn hbe (am_ln_rn hk19), am_C_v]
        exact tail _
      · rw [if_pos (Int32.not_lt.mp g), b_X6_wedges_94, am_a14, if_pos (am_in_nI (n := 32) (i := 14 + w) (by omega) (by omega)), am_cl (by omega), b_X6_wedges_103, hfm.2 g, s_bearsAll X R Z A Y hcr hdn hbe (am_ln_rn hk19), am_C_v]
        exact tail _
  exact key 19 0 none none (by omega)
theorem op_wedges (X : AMx) (a s b : Int32) : am_OP X 66 132 [.int a, .int s, .int b] := by
  intro R Z A Y hI
  have v0 : Z 0 = Y 1 ∧ am_rn (Z 0) 0 18 := hI.1 0
  have v1 : Z 1 = Y 0 ∧ am_rn (Z 1) 0 127 := hI.1 1
  have v2 : Z 2 = A 0 30 ∧ am_rn (Z 2) 0 255 := hI.1 2
  have v7 : ∀ i, i < 3 → R 0 i = A 2 i ∧ am_rn (R 0 i) (-9) 9 := hI.1 7
  have v8 : ∀ i, i < 7 → R 1 i = A 0 i ∧ am_rn (R 1 i) 0 2 := hI.1 8
  have v11 : ∀ i, i < 8 → R 4 i = A 0 (14 + i) ∧ am_rn (R 4 i) (-9) 9 := hI.1 11
  have hp : am_rn (Y 0) 0 127 := by rw [← v1.1]; exact v1.2
  have q1 := am_hs_bt v2.2 (k := 8) (by omega) (by omega) a
  have q2 := am_mh_bt (b := A 0 30) (k := 8) (by omega) (m := 7) (by decide) a
  have hL := s_leansFor X R Z A Y (s := s) (fun k hk => (v8 k hk).2) (fun c hc => (v7 c hc).2) v0.2
  have eP : (fun k => decide (am_bA (Z 0) (R 0) (R 1) s (nI k - 9))) = (fun k => decide (am_bA (Y 1) (A 2) (A 0) s (nI k - 9))) := funext fun k => by
    rw [← v0.1]; exact decide_eq_decide.mpr (am_bA_eq v7 v8)
  rw [eP] at hL
  have n30 : (30 : Int32).toNatClampNeg = 30 := rfl
  have i30 : am_in (30 : Int32) 32 := by decide
  by_cases h1 : ∃ j, j < 8 ∧ a = nI j ∧ bt (Z 2) j = true
  · have c1 := q1.mpr h1
    have c2 := q2.mpr (by rw [← v2.1]; exact h1)
    by_cases hs : s &&& (Z 1 ^^^ (-1)) = 0
    · have hs' : s &&& (Y 0 ^^^ (-1)) = 0 := by rw [← v1.1]; exact hs
      by_cases h2 : 0 ≤ b ∧ b ≤ 1
      · obtain ⟨w, hw, rfl, hwb⟩ := h1
        have hf : am_rn (A 0 (14 + w)) (-9) 9 := by rw [← (v11 w hw).1]; exact (v11 w hw).2
        have hM := l_mwedges X R Z A Y (s := s) (b := b) hw (fun k hk => by rw [← (v8 k hk).1]; exact (v8 k hk).2) (fun c hc => by rw [← (v7 c hc).1]; exact (v7 c hc).2) (by rw [← v0.1]; exact v0.2) hf
        generalize (fun k => decide (am_bA (Y 1) (A 2) (A 0) s (nI k - 9))) = P at hL hM
        have hbst : am_bst (bt (am_orf P 19)) (am_far (A 0 (14 + w))) 32 = am_bst P (am_far (A 0 (14 + w))) 19 := by
          rw [am_bst_up (n := 19) (fun j hj => am_rnb (am_orf_rn (P := P) (n := 19) (by omega)) (k := 19) (by omega) hj) 13]
          exact am_bst_cong (fun j hj => by rw [am_orf_bt (by omega) (by omega), decide_eq_true hj]; rfl)
        refine ⟨.int (if am_w5 (am_bst P (am_far (A 0 (14 + w))) 19) < 0 then am_w5 (am_bst P (am_far (A 0 (14 + w))) 19) else if b = 1 then am_w5 (am_bst P (am_far (A 0 (14 + w))) 19) else am_w4 (A 0 (14 + w)) (am_bst P (am_far (A 0 (14 + w))) 19)), R, Z, A, Y, ?_, ?_, hI⟩
        · cases e : am_bst P (am_far (A 0 (14 + w))) 19 with
          | none =>
            have h0 : am_orf P 19 = 0 := (am_orf_0 (by omega)).mpr (fun j hj => by
              rw [e] at hbst
              cases e2 : P j
              · rfl
              · exfalso
                obtain ⟨i, hi, hPi, hlt⟩ := fb_first (p := fun i => P i = true) (n := 19) ⟨j, hj, e2⟩
                have e3 : am_bst P (am_far (A 0 (14 + w))) (i + 1) = some i := by
                  rw [am_bst_n (am_bst_none (fun j hj => by
                    cases e : P j
                    · rfl
                    · exact absurd e (hlt j hj))), if_pos hPi]
                have e4 : ∀ d, ∃ c, am_bst P (am_far (A 0 (14 + w))) (i + 1 + d) = some c := by
                  intro d
                  induction d with
                  | zero => exact ⟨i, e3⟩
                  | succ d ih =>
                    obtain ⟨c, hc⟩ := ih
                    show ∃ c, am_bst P (am_far (A 0 (14 + w))) (i + 1 + d + 1) = some c
                    rw [am_bst_s hc]
                    split
                    · exact ⟨_, rfl⟩
                    · exact ⟨_, rfl⟩
                obtain ⟨c, hc⟩ := e4 (18 - i)
                rw [show i + 1 + (18 - i) = 19 by omega, e] at hc
                cases hc)
            simp only [d_X5_wedges, b_X5_wedges_0, b_X5_wedges_8, b_X5_wedges_11, b_X5_wedges_19, b_X5_wedges_22, b_X5_wedges_24, b_X5_wedges_30, b_X5_wedges_33, b_X5_wedges_36, b_X5_wedges_44, b_X5_wedges_51, b_X5_wedges_54, b_X5_wedges_65, b_X5_wedges_77, b_X5_wedges_86, b_X5_wedges_97, s_stands_1, s_areThere, s_isIn, am_C_v, am_C_0, am_ue, if_true, if_false, eq_self, am_10, ite_not, Nat.reduceEqDiff, reduceIte, am_bI_t c1, am_bI_t hs, am_bI_t h2, hL, h0]
            rw [if_pos (show am_w5 none < 0 by decide)]
            rfl
          | some c =>
            have hc := am_bst_le e
            have h0 : ¬ am_orf P 19 = 0 := fun z => by
              have := (am_orf_0 (by omega)).mp z c hc.1
              rw [hc.2] at this
              cases this
            have hn := s_nearestOf X (am_WH R Z A Y) hf (hbst.trans e)
            have n5 : ¬ am_w5 (some c) < 0 := (by decide +kernel : ∀ k, k < 19 → ¬ nI k - 9 + 10 < (0 : Int32)) c hc.1
            rw [if_neg n5]
            by_cases hb : b = 1
            · subst hb
              simp only [d_X5_wedges, b_X5_wedges_0, b_X5_wedges_8, b_X5_wedges_11, b_X5_wedges_19, b_X5_wedges_22, b_X5_wedges_24, b_X5_wedges_30, b_X5_wedges_33, b_X5_wedges_36, b_X5_wedges_44, b_X5_wedges_51, b_X5_wedges_54, b_X5_wedges_65, b_X5_wedges_77, b_X5_wedges_86, b_X5_wedges_97, s_stands_1, s_areThere, s_isIn, am_C_v, am_C_0, am_ue, if_true, if_false, eq_self, am_10, ite_not, Nat.reduceEqDiff, reduceIte, am_bI_t c1, am_bI_t hs, am_bI_t h2, hL, h0, d_X1_get_10, am_rg_nI hw (by omega : 8 < 2 ^ 31), (v11 w hw).1, hn]
              rfl
            · have hb0 : b = 0 := by
                obtain ⟨i, hi, rfl⟩ := am_ix h2 (n := 2) (by decide) (by omega)
                match i, hi with
                | 0, _ => rfl
                | 1, _ => exact absurd rfl hb
              subst hb0
              simp only [d_X5_wedges, b_X5_wedges_0, b_X5_wedges_8, b_X5_wedges_11, b_X5_wedges_19, b_X5_wedges_22, b_X5_wedges_24, b_X5_wedges_30, b_X5_wedges_33, b_X5_wedges_36, b_X5_wedges_44, b_X5_wedges_51, b_X5_wedges_54, b_X5_wedges_65, b_X5_wedges_77, b_X5_wedges_86, b_X5_wedges_97, s_stands_1, s_areThere, s_isIn, am_C_v, am_C_0, am_ue, if_true, if_false, eq_self, am_10, ite_not, Nat.reduceEqDiff, reduceIte, am_bI_t c1, am_bI_t hs, am_bI_t h2, hL, h0, d_X1_get_10, am_rg_nI hw (by omega : 8 < 2 ^ 31), (v11 w hw).1, hn]
              have q : ((if (0 : Int32) ≤ nI c - 9 - A 0 (14 + w) then nI c - 9 - A 0 (14 + w) else (0 : Int32) - (nI c - 9 - A 0 (14 + w))) : Int32) = nI (am_far (A 0 (14 + w)) c) := by
                have e5 := am_ln_int (k := c) (by omega)
                have hb : am_far (A 0 (14 + w)) c < 100 := by unfold am_far; omega
                have e6 : (nI c - 9 - A 0 (14 + w)).toInt = c - 9 - (A 0 (14 + w)).toInt := by rw [am_sub (by omega) (by omega), e5]
                apply Int32.toInt_inj.mp
                rw [am_absI (by omega), nI_toInt (by omega), e6]
                rfl
              rw [q, if_neg (by decide)]
              rfl
        · simp only [d_X6_wedges, b_X6_wedges_0, b_X6_wedges_7, b_X6_wedges_10, b_X6_wedges_17, b_X6_wedges_21, b_X6_wedges_24, b_X6_wedges_29, b_X6_wedges_32, b_X6_wedges_34, b_X6_wedges_40, b_X6_wedges_43, b_X6_wedges_46, b_X6_wedges_65, b_X6_wedges_76, b_X6_wedges_79, b_X6_wedges_90, b_X6_wedges_94, b_X6_wedges_103, b_X6_wedges_115, b_X6_wedges_118, b_X6_wedges_125, b_X6_wedges_129, b_X6_wedges_137, b_X6_wedges_145, b_X6_wedges_154, b_X6_wedges_159, b_X6_wedges_169, b_X6_wedges_174, b_X6_wedges_179, b_X6_wedges_184, s_mareThere X R Z A Y hp, s_in, s_mhas, am_C_v, am_C_0, am_ue, if_true, if_false, eq_self, am_10, ite_not, Nat.reduceEqDiff, reduceIte, if_pos i30, n30, am_bI_t c2.1, am_bI_t c2.2, am_bI_t hs', am_bI_t h2]
          exact hM
      · refine ⟨.int (-2), R, Z, A, Y, ?_, ?_, hI⟩
        · simp only [d_X5_wedges, b_X5_wedges_0, b_X5_wedges_8, b_X5_wedges_11, b_X5_wedges_19, b_X5_wedges_22, b_X5_wedges_24, b_X5_wedges_30, b_X5_wedges_33, b_X5_wedges_36, b_X5_wedges_44, b_X5_wedges_51, b_X5_wedges_54, b_X5_wedges_65, b_X5_wedges_77, b_X5_wedges_86, b_X5_wedges_97, s_stands_1, s_areThere, s_isIn, am_C_v, am_C_0, am_ue, if_true, if_false, eq_self, am_10, ite_not, Nat.reduceEqDiff, reduceIte, am_bI_t c1, am_bI_t hs, am_bI_f h2]
        · simp only [d_X6_wedges, b_X6_wedges_0, b_X6_wedges_7, b_X6_wedges_10, b_X6_wedges_17, b_X6_wedges_21, b_X6_wedges_24, b_X6_wedges_29, b_X6_wedges_32, b_X6_wedges_34, b_X6_wedges_40, b_X6_wedges_43, b_X6_wedges_46, b_X6_wedges_65, b_X6_wedges_76, b_X6_wedges_79, b_X6_wedges_90, b_X6_wedges_94, b_X6_wedges_103, b_X6_wedges_115, b_X6_wedges_118, b_X6_wedges_125, b_X6_wedges_129, b_X6_wedges_137, b_X6_wedges_145, b_X6_wedges_154, b_X6_wedges_159, b_X6_wedges_169, b_X6_wedges_174, b_X6_wedges_179, b_X6_wedges_184, s_mareThere X R Z A Y hp, s_in, s_mhas, am_C_v, am_C_0, am_ue, if_true, if_false, eq_self, am_10, ite_not, Nat.reduceEqDiff, reduceIte, if_pos i30, n30, am_bI_t c2.1, am_bI_t c2.2, am_bI_t hs', am_bI_f h2]
    · have hs' : ¬ s &&& (Y 0 ^^^ (-1)) = 0 := by rw [← v1.1]; exact hs
      refine ⟨.int (-1), R, Z, A, Y, ?_, ?_, hI⟩
      · simp only [d_X5_wedges, b_X5_wedges_0, b_X5_wedges_8, b_X5_wedges_11, b_X5_wedges_19, b_X5_wedges_22, b_X5_wedges_24, b_X5_wedges_30, b_X5_wedges_33, b_X5_wedges_36, b_X5_wedges_44, b_X5_wedges_51, b_X5_wedges_54, b_X5_wedges_65, b_X5_wedges_77, b_X5_wedges_86, b_X5_wedges_97, s_stands_1, s_areThere, s_isIn, am_C_v, am_C_0, am_ue, if_true, if_false, eq_self, am_10, ite_not, Nat.reduceEqDiff, reduceIte, am_bI_t c1, am_bI_f hs]
      · simp only [d_X6_wedges, b_X6_wedges_0, b_X6_wedges_7, b_X6_wedges_10, b_X6_wedges_17, b_X6_wedges_21, b_X6_wedges_24, b_X6_wedges_29, b_X6_wedges_32, b_X6_wedges_34, b_X6_wedges_40, b_X6_wedges_43, b_X6_wedges_46, b_X6_wedges_65, b_X6_wedges_76, b_X6_wedges_79, b_X6_wedges_90, b_X6_wedges_94, b_X6_wedges_103, b_X6_wedges_115, b_X6_wedges_118, b_X6_wedges_125, b_X6_wedges_129, b_X6_wedges_137, b_X6_wedges_145, b_X6_wedges_154, b_X6_wedges_159, b_X6_wedges_169, b_X6_wedges_174, b_X6_wedges_179, b_X6_wedges_184, s_mareThere X R Z A Y hp, s_in, s_mhas, am_C_v, am_C_0, am_ue, if_true, if_false, eq_self, am_10, ite_not, Nat.reduceEqDiff, reduceIte, if_pos i30, n30, am_bI_t c2.1, am_bI_t c2.2, am_bI_f hs']
  · have c1 : ¬ am_hs (Z 2) a := fun z => h1 (q1.mp z)
    have c2 := fun z => h1 (by rw [v2.1]; exact q2.mp z)
    refine ⟨.int (-1), R, Z, A, Y, ?_, ?_, hI⟩
    · simp only [d_X5_wedges, b_X5_wedges_0, b_X5_wedges_8, b_X5_wedges_11, b_X5_wedges_19, b_X5_wedges_22, b_X5_wedges_24, b_X5_wedges_30, b_X5_wedges_33, b_X5_wedges_36, b_X5_wedges_44, b_X5_wedges_51, b_X5_wedges_54, b_X5_wedges_65, b_X5_wedges_77, b_X5_wedges_86, b_X5_wedges_97, s_stands_1, s_areThere, s_isIn, am_C_v, am_C_0, am_ue, if_true, if_false, eq_self, am_10, ite_not, Nat.reduceEqDiff, reduceIte, am_bI_f c1]
    · by_cases h7 : 0 ≤ a ∧ a ≤ 7
      · simp only [d_X6_wedges, b_X6_wedges_0, b_X6_wedges_7, b_X6_wedges_10, b_X6_wedges_17, b_X6_wedges_21, b_X6_wedges_24, b_X6_wedges_29, b_X6_wedges_32, b_X6_wedges_34, b_X6_wedges_40, b_X6_wedges_43, b_X6_wedges_46, b_X6_wedges_65, b_X6_wedges_76, b_X6_wedges_79, b_X6_wedges_90, b_X6_wedges_94, b_X6_wedges_103, b_X6_wedges_115, b_X6_wedges_118, b_X6_wedges_125, b_X6_wedges_129, b_X6_wedges_137, b_X6_wedges_145, b_X6_wedges_154, b_X6_wedges_159, b_X6_wedges_169, b_X6_wedges_174, b_X6_wedges_179, b_X6_wedges_184, s_in, s_mhas, am_C_v, am_C_0, am_ue, if_true, if_false, eq_self, am_10, ite_not, Nat.reduceEqDiff, reduceIte, if_pos i30, n30, am_bI_t h7, am_bI_f (fun z => c2 ⟨h7, z⟩)]
      · simp only [d_X6_wedges, b_X6_wedges_0, b_X6_wedges_7, b_X6_wedges_10, b_X6_wedges_17, b_X6_wedges_21, b_X6_wedges_24, b_X6_wedges_29, b_X6_wedges_32, b_X6_wedges_34, b_X6_wedges_40, b_X6_wedges_43, b_X6_wedges_46, b_X6_wedges_65, b_X6_wedges_76, b_X6_wedges_79, b_X6_wedges_90, b_X6_wedges_94, b_X6_wedges_103, b_X6_wedges_115, b_X6_wedges_118, b_X6_wedges_125, b_X6_wedges_129, b_X6_wedges_137, b_X6_wedges_145, b_X6_wedges_154, b_X6_wedges_159, b_X6_wedges_169, b_X6_wedges_174, b_X6_wedges_179, b_X6_wedges_184, s_in, s_mhas, am_C_v, am_C_0, am_ue, if_true, if_false, eq_self, am_10, ite_not, Nat.reduceEqDiff, reduceIte, am_bI_f h7]
/-! meet -/
/-- how far behind k spans, of n -/
def am_stb (d1 d2 : Int32) (n k : Nat) : Int32 := if (0 : Int32) ≤ nI k * d1 - (nI n - nI k) * d2 then nI k * d1 - (nI n - nI k) * d2 else (0 : Int32) - (nI k * d1 - (nI n - nI k) * d2)
/-- the least, and where it is first, up to k -/
def aw_low (S : Nat → Int32) : Nat → Int32 × Int32
  | 0 => (S 0, 0)
  | k + 1 => if (aw_low S k).1 ≤ S (k + 1) then aw_low S k else (S (k + 1), nI (k + 1))
theorem s_stepBehind (X : AMx) (R : Nat → Nat → Int32) (Z : Nat → Int32) (A : Nat → Nat → Int32) (Y : Nat → Int32) {i j n k : Nat} (hi : i < 7) (hj : j < 7) (h8 : ∀ k, k < 7 → am_rn (R 1 k) 0 2) : am_D X 89 [.ref 0, .int (nI k), .int (nI n), .int (nI i), .int (nI j)] (am_WH R Z A Y) = some (some (.int (am_stb (am_dw (R 0) (R 1) i) (am_dw (R 0) (R 1) j) n k)), am_WH R Z A Y) := by
  rw [d_X5_stepBehind, b_X5_stepBehind_0, s_downFor_1 X R Z A Y hi (h8 i hi), am_C_v, b_X5_stepBehind_9, s_downFor_1 X R Z A Y hj (h8 j hj), am_C_v, b_X5_stepBehind_22]
  rfl
theorem am_0sub (x : Int32) : (0 : Int32) - x = -x := Int32.zero_sub x
theorem op_meet (X : AMx) (a b n w : Int32) : am_OP X 67 133 [.int a, .int b, .int n, .int w] := by
  intro R Z A Y hI
  have v1 : Z 1 = Y 0 ∧ am_rn (Z 1) 0 127 := hI.1 1
  have v7 : ∀ i, i < 3 → R 0 i = A 2 i ∧ am_rn (R 0 i) (-9) 9 := hI.1 7
  have v8 : ∀ i, i < 7 → R 1 i = A 0 i ∧ am_rn (R 1 i) 0 2 := hI.1 8
  have q1 := am_hs_bt v1.2 (k := 7) (by omega) (by omega) a
  have q2 := am_mh_bt (b := Y 0) (k := 7) (by omega) (m := 6) (by decide) a
  have q3 := am_hs_bt v1.2 (k := 7) (by omega) (by omega) b
  have q4 := am_mh_bt (b := Y 0) (k := 7) (by omega) (m := 6) (by decide) b
  by_cases h1 : ∃ j, j < 7 ∧ a = nI j ∧ bt (Z 1) j = true
  · have c1 := q1.mpr h1
    have c2 := q2.mpr (by rw [← v1.1]; exact h1)
    by_cases h2 : ∃ j, j < 7 ∧ b = nI j ∧ bt (Z 1) j = true
    · have c3 := q3.mpr h2
      have c4 := q4.mpr (by rw [← v1.1]; exact h2)
      by_cases h3 : 0 ≤ n ∧ n ≤ 40
      · by_cases h4 : 0 ≤ w ∧ w ≤ 1
        · obtain ⟨i, hi, rfl, _⟩ := h1
          obtain ⟨j, hj, rfl, _⟩ := h2
          obtain ⟨n, hn, rfl⟩ := am_ix h3 (n := 41) (by decide) (by omega)
          have d1 := am_dw_eq v7 (v8 i hi)
          have d2 := am_dw_eq v7 (v8 j hj)
          have r2 : am_rn (am_dw (R 0) (R 1) j) (-9) 9 := am_dw_rn (v8 j hj).2 (fun c hc => (v7 c hc).2)
          have hst : ∀ k, am_D X 89 [.ref 0, .int (nI k), .int (nI n), .int (nI i), .int (nI j)] (am_WH R Z A Y) = _ := fun k => s_stepBehind X R Z A Y hi hj (fun k hk => (v8 k hk).2)
          have r0 : ¬ (1000000 : Int32) ≤ am_stb (am_dw (R 0) (R 1) i) (am_dw (R 0) (R 1) j) n 0 := by
            have en : (nI n).toInt = n := nI_toInt (by omega)
            have b1 : (n : Int) * (am_dw (R 0) (R 1) j).toInt ≤ 40 * 9 := by
              rcases Int.le_total 0 (am_dw (R 0) (R 1) j).toInt with h | h
              · exact Int.mul_le_mul (by omega) r2.2 h (by omega)
              · have := Int.mul_nonneg (a := (n : Int)) (b := -(am_dw (R 0) (R 1) j).toInt) (by omega) (by omega)
                rw [Int.mul_neg] at this
                omega
            have b2 : -(40 * 9) ≤ (n : Int) * (am_dw (R 0) (R 1) j).toInt := by
              rcases Int.le_total 0 (am_dw (R 0) (R 1) j).toInt with h | h
              · have := Int.mul_nonneg (a := (n : Int)) (b := (am_dw (R 0) (R 1) j).toInt) (by omega) h
                omega
              · have := Int.mul_le_mul (a := (n : Int)) (b := -(am_dw (R 0) (R 1) j).toInt) (c := 40) (d := 9) (by omega) (by have := r2.1; omega) (by omega) (by omega)
                rw [Int.mul_neg] at this
                omega
            have em : (nI n * am_dw (R 0) (R 1) j).toInt = n * (am_dw (R 0) (R 1) j).toInt := by rw [am_mul (by rw [en]; omega) (by rw [en]; omega), en]
            have ev : (nI 0 * am_dw (R 0) (R 1) i - (nI n - nI 0) * am_dw (R 0) (R 1) j).toInt = -(n * (am_dw (R 0) (R 1) j).toInt) := by
              rw [show nI n - nI 0 = nI n from Int32.sub_zero _, show nI 0 * am_dw (R 0) (R 1) i = 0 from Int32.zero_mul]
              rw [am_sub (by rw [em, Int32.toInt_zero]; omega) (by rw [em, Int32.toInt_zero]; omega), em, Int32.toInt_zero]
              omega
            unfold am_stb
            rw [Int32.le_iff_toInt_le, am_absI (by omega), ev]
            show ¬ (1000000 : Int) ≤ _
            omega
          generalize hS : am_stb (am_dw (R 0) (R 1) i) (am_dw (R 0) (R 1) j) n = S at hst r0
          refine ⟨.int (if w = 0 then (aw_low S n).1 else (aw_low S n).2), R, Z, A, Y, ?_, ?_, hI⟩
          · have key : ∀ d k y8, k + d = n → am_E X AM_X5_meet 63 [some (.ref 0), some (.int (nI i)), some (.int (nI j)), some (.int (nI n)), some (.int w), some (.int (aw_low S k).2), some (.int (aw_low S k).1), some (.int (nI (k + 1))), y8] [] (am_WH R Z A Y) = some (some (.int (if w = 0 then (aw_low S n).1 else (aw_low S n).2)), am_WH R Z A Y) := by
              intro d
              induction d with
              | zero =>
                intro k y8 hk
                obtain rfl : k = n := by omega
                rw [b_X5_meet_63, if_pos (by rw [Int32.lt_iff_toInt_lt, nI_toInt (by omega), nI_toInt (by omega)]; omega), b_X5_meet_101]
                by_cases g : w = 0
                · rw [if_pos g, if_pos g, b_X5_meet_106]
                · rw [if_neg g, if_neg g, b_X5_meet_111]
              | succ d ih =>
                intro k y8 hk
                rw [b_X5_meet_63, if_neg (by rw [Int32.lt_iff_toInt_lt, nI_toInt (by omega), nI_toInt (by omega)]; omega), b_X5_meet_69, hst, am_C_v, b_X5_meet_78]
                have ih' := ih (k + 1) (some (.int (S (k + 1)))) (by omega)
                by_cases g : (aw_low S k).1 ≤ S (k + 1)
                · rw [if_pos g, b_X5_meet_95, nI_1]
                  rw [aw_low, if_pos g] at ih'
                  exact ih'
                · rw [if_neg g, b_X5_meet_87, nI_1]
                  rw [aw_low, if_neg g] at ih'
                  exact ih'
            have k := key n 0 none (by omega)
            have h0 := hst 0
            rw [show nI 0 = 0 from rfl] at h0
            simp only [d_X5_meet, b_X5_meet_0, b_X5_meet_8, b_X5_meet_11, b_X5_meet_19, b_X5_meet_22, b_X5_meet_24, b_X5_meet_31, b_X5_meet_34, b_X5_meet_41, b_X5_meet_44, b_X5_meet_47, b_X5_meet_58, b_X5_meet_69, b_X5_meet_78, b_X5_meet_87, b_X5_meet_95, b_X5_meet_101, b_X5_meet_106, b_X5_meet_111, s_isThere, s_isIn, am_C_v, am_C_0, am_ue, if_true, if_false, eq_self, am_10, ite_not, Nat.reduceEqDiff, reduceIte, am_bI_t c1, am_bI_t c3, am_bI_t h3, am_bI_t h4, h0]
            exact k
          · have step : ∀ (p q : Int32) k y8, k ≤ n → am_E X AM_X6_meet 51 [some (.ref 88), some (.int (nI i)), some (.int (nI j)), some (.int (nI n)), some (.int w), some (.int p), some (.int q), some (.int (nI k)), y8] [] (am_WH R Z A Y) = if p ≤ S k then am_E X AM_X6_meet 51 [some (.ref 88), some (.int (nI i)), some (.int (nI j)), some (.int (nI n)), some (.int w), some (.int p), some (.int q), some (.int (nI (k + 1))), some (.int (S k))] [] (am_WH R Z A Y) else am_E X AM_X6_meet 51 [some (.ref 88), some (.int (nI i)), some (.int (nI j)), some (.int (nI n)), some (.int w), some (.int (S k)), some (.int (nI k)), some (.int (nI (k + 1))), some (.int (S k))] [] (am_WH R Z A Y) := by
              intro p q k y8 hk
              obtain ⟨ci, hci, eci⟩ := am_rn_ix (v8 i hi).2 (n := 3) (by omega) (by omega)
              obtain ⟨cj, hcj, ecj⟩ := am_rn_ix (v8 j hj).2 (n := 3) (by omega) (by omega)
              have ei : A 2 ci = am_dw (R 0) (R 1) i := by unfold am_dw; rw [eci, am_cl (by omega), (v7 ci hci).1]
              have ej : A 2 cj = am_dw (R 0) (R 1) j := by unfold am_dw; rw [ecj, am_cl (by omega), (v7 cj hcj).1]
              rw [b_X6_meet_51, if_neg (by rw [Int32.lt_iff_toInt_lt, nI_toInt (by omega), nI_toInt (by omega)]; omega), b_X6_meet_57, if_pos (am_in_nI (n := 32) (i := i) (by omega) (by omega)), am_cl (by omega), b_X6_meet_69, ← (v8 i hi).1, eci, if_pos (am_in_nI hci (by omega)), am_cl (by omega), b_X6_meet_70, if_pos (am_in_nI (n := 32) (i := j) (by omega) (by omega)), am_cl (by omega), b_X6_meet_85, ← (v8 j hj).1, ecj, if_pos (am_in_nI hcj (by omega)), am_cl (by omega), b_X6_meet_86, ei, ej]
              have eS : S k = am_stb (am_dw (R 0) (R 1) i) (am_dw (R 0) (R 1) j) n k := by rw [hS]
              unfold am_stb at eS
              by_cases g : (0 : Int32) ≤ nI k * am_dw (R 0) (R 1) i - (nI n - nI k) * am_dw (R 0) (R 1) j
              · rw [if_pos g] at eS ⊢
                rw [← eS, b_X6_meet_101]
                by_cases g2 : p ≤ S k
                · rw [if_pos g2, if_pos g2, b_X6_meet_117, if_pos g2, b_X6_meet_133, nI_1]
                · rw [if_neg g2, if_neg g2, b_X6_meet_112, if_neg g2, b_X6_meet_128, nI_1]
              · rw [if_neg g] at eS ⊢
                rw [am_0sub] at eS
                rw [b_X6_meet_95, ← eS]
                by_cases g2 : p ≤ S k
                · rw [if_pos g2, if_pos g2, b_X6_meet_117, if_pos g2, b_X6_meet_133, nI_1]
                · rw [if_neg g2, if_neg g2, b_X6_meet_112, if_neg g2, b_X6_meet_128, nI_1]
            have key : ∀ d k y8, k + d = n → am_E X AM_X6_meet 51 [some (.ref 88), some (.int (nI i)), some (.int (nI j)), some (.int (nI n)), some (.int w), some (.int (aw_low S k).1), some (.int (aw_low S k).2), some (.int (nI (k + 1))), y8] [] (am_WH R Z A Y) = some (some (.int (if w = 0 then (aw_low S n).1 else (aw_low S n).2)), am_WH R Z A Y) := by
              intro d
              induction d with
              | zero =>
                intro k y8 hk
                obtain rfl : k = n := by omega
                rw [b_X6_meet_51, if_pos (by rw [Int32.lt_iff_toInt_lt, nI_toInt (by omega), nI_toInt (by omega)]; omega), b_X6_meet_143]
                by_cases g : w = 0
                · rw [if_pos g, if_pos g, b_X6_meet_148]
                · rw [if_neg g, if_neg g, b_X6_meet_153]
              | succ d ih =>
                intro k y8 hk
                rw [step _ _ (k + 1) y8 (by omega)]
                have ih' := ih (k + 1) (some (.int (S (k + 1)))) (by omega)
                by_cases g : (aw_low S k).1 ≤ S (k + 1)
                · rw [if_pos g]
                  rw [aw_low, if_pos g] at ih'
                  exact ih'
                · rw [if_neg g]
                  rw [aw_low, if_neg g] at ih'
                  exact ih'
            have k := key n 0 (some (.int (S 0))) (by omega)
            have s0 := step 1000000 0 0 none (Nat.zero_le _)
            rw [if_neg r0] at s0
            simp only [d_X6_meet, b_X6_meet_0, b_X6_meet_5, b_X6_meet_8, b_X6_meet_13, b_X6_meet_16, b_X6_meet_18, b_X6_meet_25, b_X6_meet_28, b_X6_meet_35, b_X6_meet_38, b_X6_meet_41, b_X6_meet_57, b_X6_meet_69, b_X6_meet_70, b_X6_meet_85, b_X6_meet_86, b_X6_meet_95, b_X6_meet_101, b_X6_meet_112, b_X6_meet_117, b_X6_meet_128, b_X6_meet_133, b_X6_meet_143, b_X6_meet_148, b_X6_meet_153, s_misThere, s_in, am_C_v, am_C_0, am_ue, if_true, if_false, eq_self, am_10, ite_not, Nat.reduceEqDiff, reduceIte, am_bI_t c2, am_bI_t c4, am_bI_t h3, am_bI_t h4]
            exact s0.trans k
        · refine ⟨.int (-2), R, Z, A, Y, ?_, ?_, hI⟩
          · simp only [d_X5_meet, b_X5_meet_0, b_X5_meet_8, b_X5_meet_11, b_X5_meet_19, b_X5_meet_22, b_X5_meet_24, b_X5_meet_31, b_X5_meet_34, b_X5_meet_41, b_X5_meet_44, b_X5_meet_47, b_X5_meet_58, b_X5_meet_69, b_X5_meet_78, b_X5_meet_87, b_X5_meet_95, b_X5_meet_101, b_X5_meet_106, b_X5_meet_111, s_isThere, s_isIn, am_C_v, am_C_0, am_ue, if_true, if_false, eq_self, am_10, ite_not, Nat.reduceEqDiff, reduceIte, am_bI_t c1, am_bI_t c3, am_bI_t h3, am_bI_f h4]
          · simp only [d_X6_meet, b_X6_meet_0, b_X6_meet_5, b_X6_meet_8, b_X6_meet_13, b_X6_meet_16, b_X6_meet_18, b_X6_meet_25, b_X6_meet_28, b_X6_meet_35, b_X6_meet_38, b_X6_meet_41, b_X6_meet_57, b_X6_meet_69, b_X6_meet_70, b_X6_meet_85, b_X6_meet_86, b_X6_meet_95, b_X6_meet_101, b_X6_meet_112, b_X6_meet_117, b_X6_meet_128, b_X6_meet_133, b_X6_meet_143, b_X6_meet_148, b_X6_meet_153, s_misThere, s_in, am_C_v, am_C_0, am_ue, if_true, if_false, eq_self, am_10, ite_not, Nat.reduceEqDiff, reduceIte, am_bI_t c2, am_bI_t c4, am_bI_t h3, am_bI_f h4]
      · refine ⟨.int (-2), R, Z, A, Y, ?_, ?_, hI⟩
        · simp only [d_X5_meet, b_X5_meet_0, b_X5_meet_8, b_X5_meet_11, b_X5_meet_19, b_X5_meet_22, b_X5_meet_24, b_X5_meet_31, b_X5_meet_34, b_X5_meet_41, b_X5_meet_44, b_X5_meet_47, b_X5_meet_58, b_X5_meet_69, b_X5_meet_78, b_X5_meet_87, b_X5_meet_95, b_X5_meet_101, b_X5_meet_106, b_X5_meet_111, s_isThere, s_isIn, am_C_v, am_C_0, am_ue, if_true, if_false, eq_self, am_10, ite_not, Nat.reduceEqDiff, reduceIte, am_bI_t c1, am_bI_t c3, am_bI_f h3]
        · simp only [d_X6_meet, b_X6_meet_0, b_X6_meet_5, b_X6_meet_8, b_X6_meet_13, b_X6_meet_16, b_X6_meet_18, b_X6_meet_25, b_X6_meet_28, b_X6_meet_35, b_X6_meet_38, b_X6_meet_41, b_X6_meet_57, b_X6_meet_69, b_X6_meet_70, b_X6_meet_85, b_X6_meet_86, b_X6_meet_95, b_X6_meet_101, b_X6_meet_112, b_X6_meet_117, b_X6_meet_128, b_X6_meet_133, b_X6_meet_143, b_X6_meet_148, b_X6_meet_153, s_misThere, s_in, am_C_v, am_C_0, am_ue, if_true, if_false, eq_self, am_10, ite_not, Nat.reduceEqDiff, reduceIte, am_bI_t c2, am_bI_t c4, am_bI_f h3]
    · have c3 : ¬ am_hs (Z 1) b := fun z => h2 (q3.mp z)
      have c4 := fun z => h2 (by rw [v1.1]; exact q4.mp z)
      refine ⟨.int (-1), R, Z, A, Y, ?_, ?_, hI⟩
      · simp only [d_X5_meet, b_X5_meet_0, b_X5_meet_8, b_X5_meet_11, b_X5_meet_19, b_X5_meet_22, b_X5_meet_24, b_X5_meet_31, b_X5_meet_34, b_X5_meet_41, b_X5_meet_44, b_X5_meet_47, b_X5_meet_58, b_X5_meet_69, b_X5_meet_78, b_X5_meet_87, b_X5_meet_95, b_X5_meet_101, b_X5_meet_106, b_X5_meet_111, s_isThere, s_isIn, am_C_v, am_C_0, am_ue, if_true, if_false, eq_self, am_10, ite_not, Nat.reduceEqDiff, reduceIte, am_bI_t c1, am_bI_f c3]
      · simp only [d_X6_meet, b_X6_meet_0, b_X6_meet_5, b_X6_meet_8, b_X6_meet_13, b_X6_meet_16, b_X6_meet_18, b_X6_meet_25, b_X6_meet_28, b_X6_meet_35, b_X6_meet_38, b_X6_meet_41, b_X6_meet_57, b_X6_meet_69, b_X6_meet_70, b_X6_meet_85, b_X6_meet_86, b_X6_meet_95, b_X6_meet_101, b_X6_meet_112, b_X6_meet_117, b_X6_meet_128, b_X6_meet_133, b_X6_meet_143, b_X6_meet_148, b_X6_meet_153, s_misThere, s_in, am_C_v, am_C_0, am_ue, if_true, if_false, eq_self, am_10, ite_not, Nat.reduceEqDiff, reduceIte, am_bI_t c2, am_bI_f c4]
  · have c1 : ¬ am_hs (Z 1) a := fun z => h1 (q1.mp z)
    have c2 := fun z => h1 (by rw [v1.1]; exact q2.mp z)
    refine ⟨.int (-1), R, Z, A, Y, ?_, ?_, hI⟩
    · simp only [d_X5_meet, b_X5_meet_0, b_X5_meet_8, b_X5_meet_11, b_X5_meet_19, b_X5_meet_22, b_X5_meet_24, b_X5_meet_31, b_X5_meet_34, b_X5_meet_41, b_X5_meet_44, b_X5_meet_47, b_X5_meet_58, b_X5_meet_69, b_X5_meet_78, b_X5_meet_87, b_X5_meet_95, b_X5_meet_101, b_X5_meet_106, b_X5_meet_111, s_isThere, s_isIn, am_C_v, am_C_0, am_ue, if_true, if_false, eq_self, am_10, ite_not, Nat.reduceEqDiff, reduceIte, am_bI_f c1]
    · simp only [d_X6_meet, b_X6_meet_0, b_X6_meet_5, b_X6_meet_8, b_X6_meet_13, b_X6_meet_16, b_X6_meet_18, b_X6_meet_25, b_X6_meet_28, b_X6_meet_35, b_X6_meet_38, b_X6_meet_41, b_X6_meet_57, b_X6_meet_69, b_X6_meet_70, b_X6_meet_85, b_X6_meet_86, b_X6_meet_95, b_X6_meet_101, b_X6_meet_112, b_X6_meet_117, b_X6_meet_128, b_X6_meet_133, b_X6_meet_143, b_X6_meet_148, b_X6_meet_153, s_misThere, s_in, am_C_v, am_C_0, am_ue, if_true, if_false, eq_self, am_10, ite_not, Nat.reduceEqDiff, reduceIte, am_bI_f c2]
