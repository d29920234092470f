/-! Loops; all, wedges, meet. -/
theorem am_loop {α : Type} {E : Nat → α} {r : α} (n : Nat) (h0 : E n = r) (hs : ∀ k, k < n → E k = E (k + 1)) : E 0 = r := by
  have key : ∀ d k, k + d = n → E k = r := by
    intro d
    induction d with
    | zero => intro k hk; obtain rfl : k = n := by omega
              exact h0
    | succ d ih => intro k hk; rw [hs k (by omega)]; exact ih (k + 1) (by omega)
  exact key n 0 (by omega)
theorem am_loopI {α : Type} {E : Nat → α} {r : α} (I : Nat → Prop) (n : Nat) (i0 : I 0) (h0 : I n → E n = r) (hs : ∀ k, k < n → I k → E k = r ∨ (I (k + 1) ∧ E k = E (k + 1))) : E 0 = r := by
  have key : ∀ d k, k + d = n → I k → E k = r := by
    intro d
    induction d with
    | zero => intro k hk hi; obtain rfl : k = n := by omega
              exact h0 hi
    | succ d ih =>
      intro k hk hi
      rcases hs k (by omega) hi with h | ⟨h, e⟩
      · exact h
      · rw [e]; exact ih (k + 1) (by omega) h
  exact key n 0 (by omega) i0
theorem am_bI_c {p q : Prop} [Decidable p] [Decidable q] (h : p ↔ q) : am_bI p = am_bI q := by
  by_cases hp : p
  · rw [am_bI_t hp, am_bI_t (h.mp hp)]
  · rw [am_bI_f hp, am_bI_f (fun z => hp (h.mpr z))]
theorem am_al_fwd {k : Nat} {P : Nat → Prop} : (∀ j, j < k + 1 → P j) ↔ ((∀ j, j < k → P j) ∧ P k) := by
  constructor
  · intro z
    exact ⟨fun j hj => z j (by omega), z k (by omega)⟩
  · intro z j hj
    rcases Nat.lt_or_ge j k with h2 | h2
    · exact z.1 j h2
    · obtain rfl : j = k := by omega
      exact z.2
/-- a lean that each of a set bears -/
abbrev am_bA (be : Int32) (dn cr : Nat → Int32) (s l : Int32) : Prop := ∀ j, j < 7 → bt s j = true → am_bs be (am_dw dn cr j) l
theorem s_carriesAll (X : AMx) (R : Nat → Nat → Int32) (Z : Nat → Int32) (A : Nat → Nat → Int32) (Y : Nat → Int32) {s l : Int32} (hcr : ∀ k, k < 7 → am_rn (R 1 k) 0 2) (hdn : ∀ c, c < 3 → am_rn (R 0 c) (-9) 9) (hbe : am_rn (Z 0) 0 18) (hl : am_rn l (-9) 9) : am_D X 40 [.ref 1, .int l, .int s] (am_WH R Z A Y) = some (some (.int (am_bI (am_bA (Z 0) (R 0) (R 1) s l))), am_WH R Z A Y) := by
  rw [d_X4_carriesAll_1, b_X4_carriesAll_1_0]
  refine am_loopI (E := fun k => am_E X AM_X4_carriesAll 2 [some (.ref 1), some (.int l), some (.int s), some (.int (nI k))] [] (am_WH R Z A Y)) (fun k => ∀ j, j < k → bt s j = true → am_bs (Z 0) (am_dw (R 0) (R 1) j) l) 7 (fun j hj => absurd hj (Nat.not_lt_zero j)) ?_ ?_
  · intro hi
    try dsimp only
    rw [b_X4_carriesAll_1_2, if_pos (show (7 : Int32) ≤ nI 7 from Int32.le_refl _), b_X4_carriesAll_1_33, am_bI_t hi]
  · intro k hk hi
    try dsimp only
    rw [b_X4_carriesAll_1_2, if_neg (show ¬ (7 : Int32) ≤ nI k from nI_ge (a := k) (b := 7) (by omega) (by omega)), b_X4_carriesAll_1_8, s_has, am_C_v, b_X4_carriesAll_1_13]
    by_cases g1 : bt s k = true
    · rw [am_bI_t ((am_hs_nI (by omega)).mpr g1), if_neg (by decide), b_X4_carriesAll_1_16, s_carries_1 X R Z A Y hk (hcr k hk) hdn hbe hl, am_C_v, b_X4_carriesAll_1_22]
      by_cases g2 : am_bs (Z 0) (am_dw (R 0) (R 1) k) l
      · rw [am_bI_t g2, if_neg (by decide), b_X4_carriesAll_1_27, nI_1]
        exact Or.inr ⟨am_al_fwd.mpr ⟨hi, fun _ => g2⟩, rfl⟩
      · rw [am_bI_f g2, if_pos rfl, b_X4_carriesAll_1_25]
        rw [am_bI_f (fun z => g2 (z k hk g1))]
        exact Or.inl rfl
    · rw [am_bI_f (fun z => g1 ((am_hs_nI (by omega)).mp z)), if_pos rfl, b_X4_carriesAll_1_27, nI_1]
      exact Or.inr ⟨am_al_fwd.mpr ⟨hi, fun z => absurd z g1⟩, rfl⟩
theorem s_bearsAll (X : AMx) (R : Nat → Nat → Int32) (Z : Nat → Int32) (A : Nat → Nat → Int32) (Y : Nat → Int32) {s l : Int32} (hcr : ∀ k, k < 7 → am_rn (A 0 k) 0 2) (hdn : ∀ c, c < 3 → am_rn (A 2 c) (-9) 9) (hbe : am_rn (Y 1) 0 18) (hl : am_rn l (-9) 9) : am_D X 130 [.ref 88, .int l, .int s] (am_WH R Z A Y) = some (some (.int (am_bI (am_bA (Y 1) (A 2) (A 0) s l))), am_WH R Z A Y) := by
  have key := am_loop (E := fun k => am_E X AM_X6_bearsAll 5 [some (.ref 88), some (.int l), some (.int s), some (.int (am_bI (∀ j, j < k → bt s j = true → am_bs (Y 1) (am_dw (A 2) (A 0) j) l))), some (.int (nI k))] [] (am_WH R Z A Y)) (r := some (some (.int (am_bI (am_bA (Y 1) (A 2) (A 0) s l))), am_WH R Z A Y)) 7 (by
    try dsimp only
    rw [b_X6_bearsAll_5, if_pos (show (7 : Int32) ≤ nI 7 from Int32.le_refl _), b_X6_bearsAll_52]
    by_cases g : am_bA (Y 1) (A 2) (A 0) s l
    · rw [am_bI_t g]; rfl
    · rw [am_bI_f g]; rfl) (by
    intro k hk
    try dsimp only
    rw [b_X6_bearsAll_5, if_neg (show ¬ (7 : Int32) ≤ nI k from nI_ge (a := k) (b := 7) (by omega) (by omega)), b_X6_bearsAll_12]
    by_cases g0 : ∀ j, j < k → bt s j = true → am_bs (Y 1) (am_dw (A 2) (A 0) j) l
    · rw [am_bI_t g0, if_neg (by decide), b_X6_bearsAll_16, s_mhas, am_C_v, b_X6_bearsAll_22]
      by_cases g1 : bt s k = true
      · rw [am_bI_t ((b_one k (by omega) _).mpr g1), if_neg (by decide), b_X6_bearsAll_25, if_pos (am_in_nI (n := 32) (i := k) (by omega) (by omega)), am_cl (by omega), b_X6_bearsAll_34, s_mbear X R Z A Y 0 k (hcr k hk) hdn hbe hl, am_C_v, b_X6_bearsAll_37]
        by_cases g2 : am_bs (Y 1) (am_dw (A 2) (A 0) k) l
        · rw [am_bI_t g2, if_neg (by decide), b_X6_bearsAll_40, nI_1, am_bI_t (am_al_fwd.mpr ⟨g0, fun _ => g2⟩)]
        · rw [am_bI_f g2, if_pos rfl, b_X6_bearsAll_44, nI_1, am_bI_f (fun z => g2 (z k (Nat.lt_succ_self k) g1))]
      · rw [am_bI_f (fun z => g1 ((b_one k (by omega) _).mp z)), if_pos rfl, b_X6_bearsAll_40, nI_1, am_bI_t (am_al_fwd.mpr ⟨g0, fun z => absurd z g1⟩)]
    · rw [am_bI_f g0, if_pos rfl, b_X6_bearsAll_44, nI_1, am_bI_f (fun z => g0 (fun j hj => z j (Nat.lt_succ_of_lt hj)))])
  try dsimp only at key
  rw [am_bI_t (fun j hj => absurd hj (Nat.not_lt_zero j))] at key
  rw [d_X6_bearsAll, b_X6_bearsAll_0]
  exact key
/-! leans by their places: the lean of place k is k - 9 -/
theorem am_ln_int {k : Nat} (hk : k < 1000) : (nI k - 9).toInt = k - 9 := by
  rw [am_sub (by rw [nI_toInt (by omega), show (9 : Int32).toInt = 9 from rfl]; omega) (by rw [nI_toInt (by omega), show (9 : Int32).toInt = 9 from rfl]; omega), nI_toInt (by omega)]
  rfl
theorem am_ln_rn {k : Nat} (hk : k < 19) : am_rn (nI k - 9) (-9) 9 := by
  unfold am_rn
  rw [am_ln_int (by omega)]
  omega
theorem am_ln_9 {k : Nat} (hk : k < 19) : nI k - 9 + 9 = nI k := (by decide +kernel : ∀ k, k < 19 → nI k - 9 + 9 = nI k) k hk
theorem am_ln_1 {k : Nat} (hk : k < 19) : nI k - 9 + 1 = nI (k + 1) - 9 := (by decide +kernel : ∀ k, k < 19 → nI k - 9 + 1 = nI (k + 1) - 9) k hk
theorem am_ln_lt {k : Nat} (hk : k < 19) : ¬ (9 : Int32) < nI k - 9 := (by decide +kernel : ∀ k, k < 19 → ¬ (9 : Int32) < nI k - 9) k hk
theorem am_orf_0 {P : Nat → Bool} {n : Nat} (hn : n ≤ 32) : am_orf P n = 0 ↔ ∀ j, j < n → P j = false := by
  constructor
  · intro h j hj
    have e := am_orf_bt (P := P) hn (i := j) (by omega)
    rw [h, b_0] at e
    simpa [hj] using e.symm
  · intro h
    apply b_ext
    intro i hi
    rw [am_orf_bt hn hi, b_0]
    by_cases e : i < n
    · rw [h i e]; simp
    · simp [e]
theorem am_orf_rn {P : Nat → Bool} {n : Nat} (hn : n ≤ 31) : am_rn (am_orf P n) 0 (2 ^ n - 1) := b_rn hn (fun i h1 h2 => by
  rw [am_orf_bt (by omega) h2, decide_eq_false (by omega)]; rfl)
theorem am_orf_ct {P : Nat → Bool} {n : Nat} (hn : n ≤ 32) : fb_ct (bt (am_orf P n)) n = fb_ct P n := fb_ct_cong (fun k hk => by rw [am_orf_bt hn (by omega), decide_eq_true hk]; rfl)
theorem s_leansFor (X : AMx) (R : Nat → Nat → Int32) (Z : Nat → Int32) (A : Nat → Nat → Int32) (Y : Nat → Int32) {s : Int32} (hcr : ∀ k, k < 7 → am_rn (R 1 k) 0 2) (hdn : ∀ c, c < 3 → am_rn (R 0 c) (-9) 9) (hbe : am_rn (Z 0) 0 18) : am_D X 41 [.ref 1, .int s] (am_WH R Z A Y) = some (some (.int (am_orf (fun k => decide (am_bA (Z 0) (R 0) (R 1) s (nI k - 9))) 19)), am_WH R Z A Y) := by
  rw [d_X4_leansFor_1, b_X4_leansFor_1_0]
  refine am_loop (E := fun k => am_E X AM_X4_leansFor 5 [some (.ref 1), some (.int s), some (.int (am_orf (fun k => decide (am_bA (Z 0) (R 0) (R 1) s (nI k - 9))) k)), some (.int (nI k - 9))] [] (am_WH R Z A Y)) 19 ?_ ?_
  · try dsimp only
    rw [b_X4_leansFor_1_5, if_pos (show (9 : Int32) < nI 19 - 9 by decide), b_X4_leansFor_1_35]
  · intro k hk
    try dsimp only
    rw [b_X4_leansFor_1_5, if_neg (am_ln_lt hk), b_X4_leansFor_1_11, s_carriesAll X R Z A Y hcr hdn hbe (am_ln_rn hk), am_C_v, b_X4_leansFor_1_17]
    by_cases g : am_bA (Z 0) (R 0) (R 1) s (nI k - 9)
    · rw [am_bI_t g, if_neg (by decide), b_X4_leansFor_1_20, am_ln_9 hk, am_ln_1 hk]
      rw [am_orf, if_pos (decide_eq_true g)]
    · rw [am_bI_f g, if_pos rfl, b_X4_leansFor_1_29, am_ln_1 hk]
      rw [am_orf, if_neg (by simp [g])]
theorem s_leastOf (X : AMx) (h : List AMc) {x : Int32} {i : Nat} (hi : i < 32) (h1 : bt x i = true) (h2 : ∀ j, j < i → bt x j = false) : am_D X 85 [.int x] h = some (some (.int (nI i)), h) := by
  rw [d_X5_leastOf, b_X5_leastOf_0]
  refine am_loop (E := fun k => am_E X AM_X5_leastOf 2 [some (.int x), some (.int (nI k))] [] h) i ?_ ?_
  · try dsimp only
    rw [b_X5_leastOf_2, if_neg (show ¬ (32 : Int32) ≤ nI i from nI_ge (a := i) (b := 32) (by omega) (by omega)), b_X5_leastOf_8, s_has, am_C_v, b_X5_leastOf_13, am_bI_t ((am_hs_nI hi).mpr h1), if_neg (by decide), b_X5_leastOf_16]
  · intro k hk
    try dsimp only
    rw [b_X5_leastOf_2, if_neg (show ¬ (32 : Int32) ≤ nI k from nI_ge (a := k) (b := 32) (by omega) (by omega)), b_X5_leastOf_8, s_has, am_C_v, b_X5_leastOf_13, am_bI_f (fun z => by have := (am_hs_nI (by omega)).mp z; rw [h2 k hk] at this; cases this), if_pos rfl, b_X5_leastOf_18, nI_1]
/-! sets of who is there -/
theorem s_areThere (X : AMx) (R : Nat → Nat → Int32) (Z : Nat → Int32) (A : Nat → Nat → Int32) (Y : Nat → Int32) (s : Int32) : am_D X 32 [.ref 1, .int s] (am_WH R Z A Y) = some (some (.int (am_bI (s &&& (Z 1 ^^^ (-1)) = 0))), am_WH R Z A Y) := by
  by_cases h : s &&& (Z 1 ^^^ (-1)) = 0
  · rw [am_bI_t h]
    simp only [d_X4_areThere_1, b_X4_areThere_1_0, b_X4_areThere_1_11, b_X4_areThere_1_15, if_pos h]
  · rw [am_bI_f h]
    simp only [d_X4_areThere_1, b_X4_areThere_1_0, b_X4_areThere_1_11, b_X4_areThere_1_15, if_neg h]
theorem s_mareThere (X : AMx) (R : Nat → Nat → Int32) (Z : Nat → Int32) (A : Nat → Nat → Int32) (Y : Nat → Int32) {s : Int32} (hp : am_rn (Y 0) 0 127) : am_D X 129 [.ref 88, .int s] (am_WH R Z A Y) = some (some (.int (am_bI (s &&& (Y 0 ^^^ (-1)) = 0))), am_WH R Z A Y) := by
  by_cases h : s &&& (Y 0 ^^^ (-1)) = 0
  · have h7 : am_rn s 0 127 := b_rn7 (fun i h1 h2 => by
      have e : bt (s &&& (Y 0 ^^^ (-1))) i = false := by rw [h]; exact b_0 i
      rw [b_and, bt_not _ h2, am_rnb hp (k := 7) (by omega) h1] at e
      simpa using e)
    have h1 : (0 : Int32) ≤ s ∧ s ≤ 127 := ⟨Int32.le_iff_toInt_le.mpr h7.1, Int32.le_iff_toInt_le.mpr h7.2⟩
    rw [am_bI_t h]
    simp only [d_X6_areThere, b_X6_areThere_0, b_X6_areThere_7, b_X6_areThere_10, b_X6_areThere_21, b_X6_areThere_25, s_in, am_C_v, am_C_0, am_ue, if_true, if_false, eq_self, am_10, ite_not, Nat.reduceEqDiff, reduceIte, am_bI_t h1, if_pos h]
  · rw [am_bI_f h]
    by_cases h1 : (0 : Int32) ≤ s ∧ s ≤ 127
    · simp only [d_X6_areThere, b_X6_areThere_0, b_X6_areThere_7, b_X6_areThere_10, b_X6_areThere_21, b_X6_areThere_25, s_in, am_C_v, am_C_0, am_ue, if_true, if_false, eq_self, am_10, ite_not, Nat.reduceEqDiff, reduceIte, am_bI_t h1, if_neg h]
    · simp only [d_X6_areThere, b_X6_areThere_0, b_X6_areThere_7, b_X6_areThere_10, b_X6_areThere_21, b_X6_areThere_25, s_in, am_C_v, am_C_0, am_ue, if_true, if_false, eq_self, am_10, ite_not, Nat.reduceEqDiff, reduceIte, am_bI_f h1]
/-- the least lean of a set, as it is answered -/
def am_lst (P : Nat → Bool) : Nat → Nat → Int32
  | _, 0 => -6
  | t, d + 1 => if P t = true then nI t - 9 + 10 else am_lst P (t + 1) d
theorem am_lst_at {P : Nat → Bool} {i : Nat} (hi : P i = true) : ∀ {d t : Nat}, t ≤ i → i < t + d → (∀ j, t ≤ j → j < i → P j = false) → am_lst P t d = nI i - 9 + 10
  | 0, t, h1, h2, _ => by omega
  | d + 1, t, h1, h2, h3 => by
    show (if P t = true then nI t - 9 + 10 else am_lst P (t + 1) d) = _
    rcases Nat.lt_or_ge t i with h | h
    · rw [h3 t (Nat.le_refl _) h, if_neg (by decide)]
      exact am_lst_at hi (by omega) (by omega) (fun j h4 h5 => h3 j (by omega) h5)
    · obtain rfl : t = i := by omega
      rw [if_pos hi]
theorem am_lst_no {P : Nat → Bool} : ∀ {d t : Nat}, (∀ j, t ≤ j → j < t + d → P j = false) → am_lst P t d = -6
  | 0, t, _ => rfl
  | d + 1, t, h => by
    show (if P t = true then nI t - 9 + 10 else am_lst P (t + 1) d) = _
    rw [h t (Nat.le_refl _) (by omega), if_neg (by decide)]
    exact am_lst_no (fun j h1 h2 => h j (by omega) (by omega))
/-- the reference's loop of all -/
theorem l_mall (X : AMx) (R : Nat → Nat → Int32) (Z : Nat → Int32) (A : Nat → Nat → Int32) (Y : Nat → Int32) {s b : Int32} (hcr : ∀ k, k < 7 → am_rn (A 0 k) 0 2) (hdn : ∀ c, c < 3 → am_rn (A 2 c) (-9) 9) (hbe : am_rn (Y 1) 0 18) : am_E X AM_X6_all 32 [some (.ref 88), some (.int s), some (.int b), some (.int 0), some (.int (-6)), some (.int 9)] [] (am_WH R Z A Y) = some (some (.int (if b = 0 then nI (fb_ct (fun k => decide (am_bA (Y 1) (A 2) (A 0) s (nI k - 9))) 19) else am_lst (fun k => decide (am_bA (Y 1) (A 2) (A 0) s (nI k - 9))) 0 19)), am_WH R Z A Y) := by
  generalize hP : (fun k => decide (am_bA (Y 1) (A 2) (A 0) s (nI k - 9))) = P
  have hPk : ∀ k, P k = decide (am_bA (Y 1) (A 2) (A 0) s (nI k - 9)) := fun k => by rw [← hP]
  have key : ∀ t, t ≤ 19 → am_E X AM_X6_all 32 [some (.ref 88), some (.int s), some (.int b), some (.int (nI (fb_ct P 19 - fb_ct P t))), some (.int (am_lst P t (19 - t))), some (.int (nI t - 10))] [] (am_WH R Z A Y) = some (some (.int (if b = 0 then nI (fb_ct P 19) else am_lst P 0 19)), am_WH R Z A Y) := by
    intro t
    induction t with
    | zero =>
      intro _
      rw [b_X6_all_32, if_pos (show nI 0 - 10 ≤ (-10 : Int32) by decide), b_X6_all_65]
      by_cases g : b = 0
      · rw [if_pos g, if_pos g, b_X6_all_69]
        rfl
      · rw [if_neg g, if_neg g, b_X6_all_73]
    | succ t ih =>
      intro ht
      have ih' := ih (by omega)
      rw [show nI (t + 1) - 10 = nI t - 9 from (by decide +kernel : ∀ k, k < 19 → nI (k + 1) - 10 = nI k - 9) t ht, b_X6_all_32, if_neg ((by decide +kernel : ∀ k, k < 19 → ¬ nI k - 9 ≤ (-10 : Int32)) t ht), b_X6_all_39, s_bearsAll X R Z A Y hcr hdn hbe (am_ln_rn ht), am_C_v, b_X6_all_46]
      rw [show 19 - t = (19 - (t + 1)) + 1 by omega] at ih'
      have e10 : nI t - 9 + -1 = nI t - 10 := (by decide +kernel : ∀ k, k < 19 → nI k - 9 + -1 = nI k - 10) t ht
      by_cases g : am_bA (Y 1) (A 2) (A 0) s (nI t - 9)
      · have gP : P t = true := by rw [hPk, decide_eq_true g]
        have m := fb_ct_mono P (show t + 1 ≤ 19 by omega)
        have e : fb_ct P (t + 1) = fb_ct P t + 1 := by rw [fb_ct_succ, if_pos gP]
        rw [am_bI_t g, if_neg (by decide), b_X6_all_49, nI_1, e10, show fb_ct P 19 - fb_ct P (t + 1) + 1 = fb_ct P 19 - fb_ct P t by omega]
        rw [am_lst, if_pos gP] at ih'
        exact ih'
      · have gP : ¬ P t = true := by rw [hPk]; simp [g]
        have e : fb_ct P (t + 1) = fb_ct P t := by rw [fb_ct_succ, if_neg gP]; rfl
        rw [am_bI_f g, if_pos rfl, b_X6_all_59, e10, e]
        rw [am_lst, if_neg gP] at ih'
        exact ih'
  have k := key 19 (Nat.le_refl _)
  rw [Nat.sub_self] at k
  exact k
/-- what a set bears is of both the same -/
theorem am_dw_eq {r0 r1 a2 a0 : Nat → Int32} {k : Nat} (h7 : ∀ i, i < 3 → r0 i = a2 i ∧ am_rn (r0 i) (-9) 9) (h8 : r1 k = a0 k ∧ am_rn (r1 k) 0 2) : am_dw r0 r1 k = am_dw a2 a0 k := by
  obtain ⟨c, hc, e⟩ := am_rn_ix h8.2 (n := 3) (by omega) (by omega)
  unfold am_dw
  rw [← h8.1, e, am_cl (by omega), (h7 c hc).1]
theorem am_bA_eq {be : Int32} {r0 r1 a2 a0 : Nat → Int32} {s l : Int32} (h7 : ∀ i, i < 3 → r0 i = a2 i ∧ am_rn (r0 i) (-9) 9) (h8 : ∀ i, i < 7 → r1 i = a0 i ∧ am_rn (r1 i) 0 2) : am_bA be r0 r1 s l ↔ am_bA be a2 a0 s l := by
  constructor
  · intro z j hj hb; rw [← am_dw_eq h7 (h8 j hj)]; exact z j hj hb
  · intro z j hj hb; rw [am_dw_eq h7 (h8 j hj)]; exact z j hj hb
theorem op_all (X : AMx) (s b : Int32) : am_OP X 65 131 [.int s, .int b] := by
  intro R Z A Y hI
  have v0 : Z 0 = Y 1 ∧ am_rn (Z 0) 0 18 := hI.1 0
  have v1 : Z 1 = Y 0 ∧ am_rn (Z 1) 0 127 := hI.1 1
  have v7 : ∀ i, i < 3 → R 0 i = A 2 i ∧ am_rn (R 0 i) (-9) 9 := hI.1 7
  have v8 : ∀ i, i < 7 → R 1 i = A 0 i ∧ am_rn (R 1 i) 0 2 := hI.1 8
  have hp : am_rn (Y 0) 0 127 := by rw [← v1.1]; exact v1.2
  have hL := s_leansFor X R Z A Y (s := s) (fun k hk => (v8 k hk).2) (fun c hc => (v7 c hc).2) v0.2
  have hM := l_mall X R Z A Y (s := s) (b := b) (fun k hk => by rw [← (v8 k hk).1]; exact (v8 k hk).2) (fun c hc => by rw [← (v7 c hc).1]; exact (v7 c hc).2) (by rw [← v0.1]; exact v0.2)
  have eP : (fun k => decide (am_bA (Z 0) (R 0) (R 1) s (nI k - 9))) = (fun k => decide (am_bA (Y 1) (A 2) (A 0) s (nI k - 9))) := funext fun k => by
    rw [← v0.1]; exact decide_eq_decide.mpr (am_bA_eq v7 v8)
  rw [eP] at hL
  generalize (fun k => decide (am_bA (Y 1) (A 2) (A 0) s (nI k - 9))) = P at hL hM
  by_cases h1 : s &&& (Z 1 ^^^ (-1)) = 0
  · have h1' : s &&& (Y 0 ^^^ (-1)) = 0 := by rw [← v1.1]; exact h1
    by_cases h2 : 0 ≤ b ∧ b ≤ 1
    · refine ⟨.int (if b = 0 then nI (fb_ct P 19) else am_lst P 0 19), R, Z, A, Y, ?_, ?_, hI⟩
      · by_cases hb : b = 0
        · subst hb
          simp only [d_X5_all, b_X5_all_0, b_X5_all_8, b_X5_all_11, b_X5_all_13, b_X5_all_19, b_X5_all_22, b_X5_all_25, b_X5_all_33, b_X5_all_38, b_X5_all_42, b_X5_all_43, b_X5_all_47, b_X5_all_52, b_X5_all_56, s_areThere, s_isIn, am_C_v, am_C_0, am_ue, if_true, if_false, eq_self, am_10, ite_not, Nat.reduceEqDiff, reduceIte, am_bI_t h1, am_bI_t h2, hL, s_bitCount X _ (am_rnw (am_orf_rn (P := P) (n := 19) (by omega)) (Int.le_refl _) (by omega)), am_ct_small (k := 19) (n := 24) (am_orf_rn (P := P) (n := 19) (by omega)) (by omega), am_orf_ct (P := P) (n := 19) (by omega)]
        · by_cases h0 : am_orf P 19 = 0
          · simp only [d_X5_all, b_X5_all_0, b_X5_all_8, b_X5_all_11, b_X5_all_13, b_X5_all_19, b_X5_all_22, b_X5_all_25, b_X5_all_33, b_X5_all_38, b_X5_all_42, b_X5_all_43, b_X5_all_47, b_X5_all_52, b_X5_all_56, s_areThere, s_isIn, am_C_v, am_C_0, am_ue, if_true, if_false, eq_self, am_10, ite_not, Nat.reduceEqDiff, reduceIte, am_bI_t h1, am_bI_t h2, hL, hb, h0]
            rw [am_lst_no (P := P) (t := 0) (d := 19) (fun j _ hj => (am_orf_0 (by omega)).mp h0 j (by omega))]
          · obtain ⟨i, hi, hPi, hlt⟩ := fb_first (p := fun i => P i = true) (n := 19) (by
              false_or_by_contra
              rename_i q
              exact h0 ((am_orf_0 (by omega)).mpr (fun j hj => by
                cases e : P j
                · rfl
                · exact absurd ⟨j, hj, e⟩ q)))
            have hlt' : ∀ j, j < i → P j = false := fun j hj => by
              cases e : P j
              · rfl
              · exact absurd e (hlt j hj)
            have hl := s_leastOf X (am_WH R Z A Y) (x := am_orf P 19) (i := i) (by omega) (by rw [am_orf_bt (by omega) (by omega), decide_eq_true hi, hPi]; rfl) (fun j hj => by rw [am_orf_bt (by omega) (by omega), hlt' j hj]; simp)
            simp only [d_X5_all, b_X5_all_0, b_X5_all_8, b_X5_all_11, b_X5_all_13, b_X5_all_19, b_X5_all_22, b_X5_all_25, b_X5_all_33, b_X5_all_38, b_X5_all_42, b_X5_all_43, b_X5_all_47, b_X5_all_52, b_X5_all_56, s_areThere, s_isIn, am_C_v, am_C_0, am_ue, if_true, if_false, eq_self, am_10, ite_not, Nat.reduceEqDiff, reduceIte, am_bI_t h1, am_bI_t h2, hL, hb, h0, hl]
            rw [am_lst_at (t := 0) (d := 19) hPi (Nat.zero_le _) (by omega) (fun j _ hj => hlt' j hj)]
      · simp only [d_X6_all, b_X6_all_0, b_X6_all_5, b_X6_all_8, b_X6_all_10, b_X6_all_16, b_X6_all_19, b_X6_all_22, b_X6_all_39, b_X6_all_46, b_X6_all_49, b_X6_all_59, b_X6_all_65, b_X6_all_69, b_X6_all_73, s_mareThere X R Z A Y hp, s_in, am_C_v, am_C_0, am_ue, if_true, if_false, eq_self, am_10, ite_not, Nat.reduceEqDiff, reduceIte, am_bI_t h1', am_bI_t h2]
        exact hM
    · refine ⟨.int (-2), R, Z, A, Y, ?_, ?_, hI⟩
      · simp only [d_X5_all, b_X5_all_0, b_X5_all_8, b_X5_all_11, b_X5_all_13, b_X5_all_19, b_X5_all_22, b_X5_all_25, b_X5_all_33, b_X5_all_38, b_X5_all_42, b_X5_all_43, b_X5_all_47, b_X5_all_52, b_X5_all_56, s_areThere, s_isIn, am_C_v, am_C_0, am_ue, if_true, if_false, eq_self, am_10, ite_not, Nat.reduceEqDiff, reduceIte, am_bI_t h1, am_bI_f h2]
      · simp only [d_X6_all, b_X6_all_0, b_X6_all_5, b_X6_all_8, b_X6_all_10, b_X6_all_16, b_X6_all_19, b_X6_all_22, b_X6_all_39, b_X6_all_46, b_X6_all_49, b_X6_all_59, b_X6_all_65, b_X6_all_69, b_X6_all_73, s_mareThere X R Z A Y hp, s_in, am_C_v, am_C_0, am_ue, if_true, if_false, eq_self, am_10, ite_not, Nat.reduceEqDiff, reduceIte, am_bI_t h1', am_bI_f h2]
  · have h1' : ¬ s &&& (Y 0 ^^^ (-1)) = 0 := by rw [← v1.1]; exact h1
    refine ⟨.int (-1), R, Z, A, Y, ?_, ?_, hI⟩
    · simp only [d_X5_all, b_X5_all_0, b_X5_all_8, b_X5_all_11, b_X5_all_13, b_X5_all_19, b_X5_all_22, b_X5_all_25, b_X5_all_33, b_X5_all_38, b_X5_all_42, b_X5_all_43, b_X5_all_47, b_X5_all_52, b_X5_all_56, s_areThere, s_isIn, am_C_v, am_C_0, am_ue, if_true, if_false, eq_self, am_10, ite_not, Nat.reduceEqDiff, reduceIte, am_bI_f h1]
    · simp only [d_X6_all, b_X6_all_0, b_X6_all_5, b_X6_all_8, b_X6_all_10, b_X6_all_16, b_X6_all_19, b_X6_all_22, b_X6_all_39, b_X6_all_46, b_X6_all_49, b_X6_all_59, b_X6_all_65, b_X6_all_69, b_X6_all_73, s_mareThere X R Z A Y hp, s_in, am_C_v, am_C_0, am_ue, if_true, if_false, eq_self, am_10, ite_not, Nat.reduceEqDiff, reduceIte, am_bI_f h1']
