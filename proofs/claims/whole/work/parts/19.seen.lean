/-! seen, downs, next: what downs he can hold. -/
/-! the parts of what belongs together, one by one (the kernel: a bound of many is dear where two such are compared whole) -/
theorem am_V0 {r : Nat → Nat → Int32} {z : Nat → Int32} {bk dn kn fr to sl sg : Nat → Int32} {be th st si : Int32} (h : ∀ i, am_VR r z bk dn kn fr to sl sg be th st si i) : z 0 = be ∧ am_rn (z 0) 0 18 := h 0
theorem am_V1 {r : Nat → Nat → Int32} {z : Nat → Int32} {bk dn kn fr to sl sg : Nat → Int32} {be th st si : Int32} (h : ∀ i, am_VR r z bk dn kn fr to sl sg be th st si i) : z 1 = th ∧ am_rn (z 1) 0 127 := h 1
theorem am_V2 {r : Nat → Nat → Int32} {z : Nat → Int32} {bk dn kn fr to sl sg : Nat → Int32} {be th st si : Int32} (h : ∀ i, am_VR r z bk dn kn fr to sl sg be th st si i) : z 2 = bk 30 ∧ am_rn (z 2) 0 255 := h 2
theorem am_V3 {r : Nat → Nat → Int32} {z : Nat → Int32} {bk dn kn fr to sl sg : Nat → Int32} {be th st si : Int32} (h : ∀ i, am_VR r z bk dn kn fr to sl sg be th st si i) : z 3 = st ∧ am_rn (z 3) 0 4095 := h 3
theorem am_V4 {r : Nat → Nat → Int32} {z : Nat → Int32} {bk dn kn fr to sl sg : Nat → Int32} {be th st si : Int32} (h : ∀ i, am_VR r z bk dn kn fr to sl sg be th st si i) : z 4 = bk 31 ∧ am_rn (z 4) 0 99 := h 4
theorem am_V5 {r : Nat → Nat → Int32} {z : Nat → Int32} {bk dn kn fr to sl sg : Nat → Int32} {be th st si : Int32} (h : ∀ i, am_VR r z bk dn kn fr to sl sg be th st si i) : z 5 = si ∧ am_rn (z 5) 0 8 := h 5
theorem am_V6 {r : Nat → Nat → Int32} {z : Nat → Int32} {bk dn kn fr to sl sg : Nat → Int32} {be th st si : Int32} (h : ∀ i, am_VR r z bk dn kn fr to sl sg be th st si i) : am_rn (z 6) 0 524287 ∧ ∀ v, v < 19 → (bt (z 6) v = true ↔ am_fit sg (z 5).toNatClampNeg (nI v - 9)) := h 6
theorem am_V7 {r : Nat → Nat → Int32} {z : Nat → Int32} {bk dn kn fr to sl sg : Nat → Int32} {be th st si : Int32} (h : ∀ i, am_VR r z bk dn kn fr to sl sg be th st si i) : ∀ i, i < 3 → r 0 i = dn i ∧ am_rn (r 0 i) (-9) 9 := h 7
theorem am_V8 {r : Nat → Nat → Int32} {z : Nat → Int32} {bk dn kn fr to sl sg : Nat → Int32} {be th st si : Int32} (h : ∀ i, am_VR r z bk dn kn fr to sl sg be th st si i) : ∀ i, i < 7 → r 1 i = bk i ∧ am_rn (r 1 i) 0 2 := h 8
theorem am_V9 {r : Nat → Nat → Int32} {z : Nat → Int32} {bk dn kn fr to sl sg : Nat → Int32} {be th st si : Int32} (h : ∀ i, am_VR r z bk dn kn fr to sl sg be th st si i) : ∀ i, i < 7 → r 2 i = bk (7 + i) ∧ am_rn (r 2 i) 0 9 := h 9
theorem am_V10 {r : Nat → Nat → Int32} {z : Nat → Int32} {bk dn kn fr to sl sg : Nat → Int32} {be th st si : Int32} (h : ∀ i, am_VR r z bk dn kn fr to sl sg be th st si i) : ∀ i, i < 7 → r 3 i = kn i ∧ am_rn (r 3 i) 0 127 := h 10
theorem am_V11 {r : Nat → Nat → Int32} {z : Nat → Int32} {bk dn kn fr to sl sg : Nat → Int32} {be th st si : Int32} (h : ∀ i, am_VR r z bk dn kn fr to sl sg be th st si i) : ∀ i, i < 8 → r 4 i = bk (14 + i) ∧ am_rn (r 4 i) (-9) 9 := h 11
theorem am_V12 {r : Nat → Nat → Int32} {z : Nat → Int32} {bk dn kn fr to sl sg : Nat → Int32} {be th st si : Int32} (h : ∀ i, am_VR r z bk dn kn fr to sl sg be th st si i) : ∀ i, i < 8 → r 5 i = bk (22 + i) ∧ am_rn (r 5 i) 0 2 := h 12
theorem am_V13 {r : Nat → Nat → Int32} {z : Nat → Int32} {bk dn kn fr to sl sg : Nat → Int32} {be th st si : Int32} (h : ∀ i, am_VR r z bk dn kn fr to sl sg be th st si i) : ∀ i, i < 12 → r 6 i = fr i ∧ am_rn (r 6 i) 0 9 := h 13
theorem am_V14 {r : Nat → Nat → Int32} {z : Nat → Int32} {bk dn kn fr to sl sg : Nat → Int32} {be th st si : Int32} (h : ∀ i, am_VR r z bk dn kn fr to sl sg be th st si i) : ∀ i, i < 12 → r 7 i = to i ∧ am_rn (r 7 i) 0 9 := h 14
theorem am_V15 {r : Nat → Nat → Int32} {z : Nat → Int32} {bk dn kn fr to sl sg : Nat → Int32} {be th st si : Int32} (h : ∀ i, am_VR r z bk dn kn fr to sl sg be th st si i) : ∀ i, i < 12 → r 8 i = sl i ∧ am_rn (r 8 i) (-9) 9 := h 15
theorem am_VR_mk {r : Nat → Nat → Int32} {z : Nat → Int32} {bk dn kn fr to sl sg : Nat → Int32} {be th st si : Int32} (h0 : z 0 = be ∧ am_rn (z 0) 0 18) (h1 : z 1 = th ∧ am_rn (z 1) 0 127) (h2 : z 2 = bk 30 ∧ am_rn (z 2) 0 255) (h3 : z 3 = st ∧ am_rn (z 3) 0 4095) (h4 : z 4 = bk 31 ∧ am_rn (z 4) 0 99) (h5 : z 5 = si ∧ am_rn (z 5) 0 8) (h6 : am_rn (z 6) 0 524287 ∧ ∀ v, v < 19 → (bt (z 6) v = true ↔ am_fit sg (z 5).toNatClampNeg (nI v - 9))) (h7 : ∀ i, i < 3 → r 0 i = dn i ∧ am_rn (r 0 i) (-9) 9) (h8 : ∀ i, i < 7 → r 1 i = bk i ∧ am_rn (r 1 i) 0 2) (h9 : ∀ i, i < 7 → r 2 i = bk (7 + i) ∧ am_rn (r 2 i) 0 9) (h10 : ∀ i, i < 7 → r 3 i = kn i ∧ am_rn (r 3 i) 0 127) (h11 : ∀ i, i < 8 → r 4 i = bk (14 + i) ∧ am_rn (r 4 i) (-9) 9) (h12 : ∀ i, i < 8 → r 5 i = bk (22 + i) ∧ am_rn (r 5 i) 0 2) (h13 : ∀ i, i < 12 → r 6 i = fr i ∧ am_rn (r 6 i) 0 9) (h14 : ∀ i, i < 12 → r 7 i = to i ∧ am_rn (r 7 i) 0 9) (h15 : ∀ i, i < 12 → r 8 i = sl i ∧ am_rn (r 8 i) (-9) 9) : ∀ i, am_VR r z bk dn kn fr to sl sg be th st si i
  | 0 => h0
  | 1 => h1
  | 2 => h2
  | 3 => h3
  | 4 => h4
  | 5 => h5
  | 6 => h6
  | 7 => h7
  | 8 => h8
  | 9 => h9
  | 10 => h10
  | 11 => h11
  | 12 => h12
  | 13 => h13
  | 14 => h14
  | 15 => h15
  | _ + 16 => trivial
/-- the set of leans that are so to the lean of place k -/
def aw_dt (how : Int32) (k : Nat) : Int32 := if how = 0 then ((1 : Int32) <<< (nI k &&& 31)) - 1 else if how = 1 then (1 : Int32) <<< (nI k &&& 31) else 524287 &&& (((((1 : Int32) <<< (nI k &&& 31)) - 1) ||| ((1 : Int32) <<< (nI k &&& 31))) ^^^ (-1))
theorem s_downsThat (X : AMx) (h : List AMc) (how : Int32) {k : Nat} (hk : k < 19) : am_D X 87 [.int how, .int (nI k - 9)] h = some (some (.int (aw_dt how k)), h) := by
  rw [d_X5_downsThat, b_X5_downsThat_0, am_ln_9 hk]
  unfold aw_dt
  by_cases g : how = 0
  · rw [if_pos g, if_pos g, b_X5_downsThat_15]
  · rw [if_neg g, if_neg g, b_X5_downsThat_17]
    by_cases g2 : how = 1
    · rw [if_pos g2, if_pos g2, b_X5_downsThat_22]
    · rw [if_neg g2, if_neg g2, b_X5_downsThat_26]
theorem aw_dt_bt : ∀ j, j < 3 → ∀ k, k < 19 → ∀ v, v < 32 → bt (aw_dt (nI j) k) v = (decide (v < 19) && decide (am_how (nI v - 9) (nI k - 9) = nI j)) := by decide +kernel
theorem am_fit_s {sg : Nat → Int32} {n : Nat} {x : Int32} : am_fit sg (n + 1) x ↔ (am_fit sg n x ∧ am_how x (sg (2 * n)) = sg (2 * n + 1)) := by
  unfold am_fit
  exact am_al_fwd (P := fun i => am_how x (sg (2 * i)) = sg (2 * i + 1))
theorem am_fit_cong {sg sg' : Nat → Int32} {n : Nat} {x : Int32} (h : ∀ i, i < 2 * n → sg' i = sg i) : am_fit sg' n x ↔ am_fit sg n x := by
  unfold am_fit
  constructor
  · intro z i hi
    have := z i hi
    rwa [h _ (by omega), h _ (by omega)] at this
  · intro z i hi
    rw [h _ (by omega), h _ (by omega)]
    exact z i hi
theorem aw_and_rn {z y : Int32} (h : am_rn z 0 524287) : am_rn (z &&& y) 0 524287 := am_rnw (b_rn (k := 19) (by omega) (fun i h1 h32 => by
  rw [b_and, am_rnb h (k := 19) (by omega) h1]; rfl)) (Int.le_refl _) (by omega)
theorem aw_lean {a : Int32} (h1 : -9 ≤ a ∧ a ≤ 9) : ∃ k, k < 19 ∧ a = nI k - 9 := by
  have r := am_rn_le h1
  have r1 : (-9 : Int) ≤ a.toInt := r.1
  have r2 : a.toInt ≤ (9 : Int) := r.2
  refine ⟨(a.toInt + 9).toNat, by omega, ?_⟩
  apply Int32.toInt_inj.mp
  rw [am_ln_int (by omega)]
  omega
theorem op_seen (X : AMx) (a b : Int32) : am_OP X 70 137 [.int a, .int b] := by
  intro R Z A Y hI
  have v5 : Z 5 = Y 3 ∧ am_rn (Z 5) 0 8 := hI.1 5
  have v6 : am_rn (Z 6) 0 524287 ∧ ∀ v, v < 19 → (bt (Z 6) v = true ↔ am_fit (A 7) (Z 5).toNatClampNeg (nI v - 9)) := hI.1 6
  by_cases h1 : -9 ≤ a ∧ a ≤ 9
  · by_cases h2 : 0 ≤ b ∧ b ≤ 2
    · obtain ⟨n, hn, en⟩ := am_rn_ix v5.2 (n := 9) (by omega) (by omega)
      have eY : Y 3 = nI n := v5.1.symm.trans en
      by_cases h3 : n = 8
      · subst h3
        refine ⟨.int (-4), R, Z, A, Y, ?_, ?_, hI⟩
        · simp only [d_X5_seen, b_X5_seen_0, b_X5_seen_4, b_X5_seen_7, b_X5_seen_13, b_X5_seen_16, b_X5_seen_19, b_X5_seen_31, b_X5_seen_34, b_X5_seen_47, s_isLean, s_isIn, am_C_v, am_C_0, am_ue, if_true, if_false, eq_self, am_10, ite_not, Nat.reduceEqDiff, reduceIte, am_bI_t h1, am_bI_t h2, en, if_neg (by decide : ¬ nI 8 < (8 : Int32))]
        · simp only [d_X6_seen, b_X6_seen_0, b_X6_seen_4, b_X6_seen_7, b_X6_seen_13, b_X6_seen_16, b_X6_seen_19, b_X6_seen_28, b_X6_seen_31, b_X6_seen_43, b_X6_seen_57, s_misLean, s_in, am_C_v, am_C_0, am_ue, if_true, if_false, eq_self, am_10, ite_not, Nat.reduceEqDiff, reduceIte, am_bI_t h1, am_bI_t h2, eY, if_pos (by decide : nI 8 = (8 : Int32))]
      · obtain ⟨k, hk, rfl⟩ := aw_lean h1
        obtain ⟨j, hj, rfl⟩ := am_ix h2 (n := 3) (by decide) (by omega)
        have hlt : nI n < (8 : Int32) := nI_lt (a := n) (b := 8) (by omega) (by omega)
        have hne : ¬ nI n = (8 : Int32) := fun z => h3 ((nI_eq (a := n) (b := 8) (by omega) (by omega)).mp z)
        have e2n : (2 : Int32) * nI n = nI (2 * n) := pk_mul 2 n
        have e2n1 : (2 : Int32) * nI n + 1 = nI (2 * n + 1) := by rw [e2n, nI_1]
        obtain ⟨W, hW⟩ : ∃ W, W = Z 6 &&& aw_dt (nI j) k := ⟨_, rfl⟩
        obtain ⟨V, hV⟩ : ∃ V, V = nI (n + 1) := ⟨_, rfl⟩
        obtain ⟨B, hB⟩ : ∃ B, B = upd (upd (A 7) (2 * n) (nI k - 9)) (2 * n + 1) (nI j) := ⟨_, rfl⟩
        refine ⟨.int V, R, am_up (am_up Z 6 W) 5 V, am_up A 7 B, am_up Y 3 V, ?_, ?_, ?_, am_inh_PD hI.2.1 rfl rfl rfl rfl, ?_⟩
        · rw [hW, hV]
          simp only [d_X5_seen, b_X5_seen_0, b_X5_seen_4, b_X5_seen_7, b_X5_seen_13, b_X5_seen_16, b_X5_seen_19, b_X5_seen_31, b_X5_seen_34, b_X5_seen_47, s_isLean, s_isIn, am_C_v, am_C_0, am_ue, if_true, if_false, eq_self, am_10, ite_not, Nat.reduceEqDiff, reduceIte, am_bI_t h1, am_bI_t h2, en, if_pos hlt, s_downsThat X _ _ hk, nI_1]
        · rw [hV, hB]
          simp only [d_X6_seen, b_X6_seen_0, b_X6_seen_4, b_X6_seen_7, b_X6_seen_13, b_X6_seen_16, b_X6_seen_19, b_X6_seen_28, b_X6_seen_31, b_X6_seen_43, b_X6_seen_57, s_misLean, s_in, am_C_v, am_C_0, am_ue, if_true, if_false, eq_self, am_10, ite_not, Nat.reduceEqDiff, reduceIte, am_bI_t h1, am_bI_t h2, eY, if_neg hne, e2n1, e2n, if_pos (am_in_nI (show 2 * n < 16 by omega) (by omega)), if_pos (am_in_nI (show 2 * n + 1 < 16 by omega) (by omega)), am_cl (show 2 * n < 2 ^ 31 by omega), am_cl (show 2 * n + 1 < 2 ^ 31 by omega), nI_1, am_up_s, am_uu]
        · have e6 : am_rn W 0 524287 := by rw [hW]; exact aw_and_rn v6.1
          have e5 : am_rn V 0 8 := by rw [hV]; exact ⟨by rw [nI_toInt (by omega)]; omega, by rw [nI_toInt (by omega)]; omega⟩
          have e7 : ∀ v, v < 19 → (bt W v = true ↔ am_fit B V.toNatClampNeg (nI v - 9)) := by
            intro v hv
            rw [hW, hV, hB, b_and, Bool.and_eq_true, v6.2 v hv, aw_dt_bt j hj k hk v (by omega), am_cl (by omega), en, am_cl (by omega), am_fit_s, upd_s, upd_n _ _ (by omega), upd_s, decide_eq_true hv, Bool.true_and, decide_eq_true_eq]
            refine and_congr_left' ?_
            exact (am_fit_cong (fun i hi => by rw [upd_n _ _ (by omega), upd_n _ _ (by omega)])).symm
          exact (am_VR_mk (have q := am_V0 hI.1; q) (have q := am_V1 hI.1; q) (have q := am_V2 hI.1; q) (have q := am_V3 hI.1; q) (have q := am_V4 hI.1; q) (⟨rfl, e5⟩) (⟨e6, e7⟩) (have q := am_V7 hI.1; q) (have q := am_V8 hI.1; q) (have q := am_V9 hI.1; q) (have q := am_V10 hI.1; q) (have q := am_V11 hI.1; q) (have q := am_V12 hI.1; q) (have q := am_V13 hI.1; q) (have q := am_V14 hI.1; q) (have q := am_V15 hI.1; q))
        · exact am_IM_congr (R := R) (Z := Z) (A := A) (fun _ _ _ => rfl) (fun k h _ => by rw [am_up_n _ _ (by omega), am_up_n _ _ (by omega)]) rfl rfl rfl hI.2.2
    · refine ⟨.int (-2), R, Z, A, Y, ?_, ?_, hI⟩
      · simp only [d_X5_seen, b_X5_seen_0, b_X5_seen_4, b_X5_seen_7, b_X5_seen_13, b_X5_seen_16, b_X5_seen_19, b_X5_seen_31, b_X5_seen_34, b_X5_seen_47, s_isLean, s_isIn, am_C_v, am_C_0, am_ue, if_true, if_false, eq_self, am_10, ite_not, Nat.reduceEqDiff, reduceIte, am_bI_t h1, am_bI_f h2]
      · simp only [d_X6_seen, b_X6_seen_0, b_X6_seen_4, b_X6_seen_7, b_X6_seen_13, b_X6_seen_16, b_X6_seen_19, b_X6_seen_28, b_X6_seen_31, b_X6_seen_43, b_X6_seen_57, s_misLean, s_in, am_C_v, am_C_0, am_ue, if_true, if_false, eq_self, am_10, ite_not, Nat.reduceEqDiff, reduceIte, am_bI_t h1, am_bI_f h2]
  · refine ⟨.int (-2), R, Z, A, Y, ?_, ?_, hI⟩
    · simp only [d_X5_seen, b_X5_seen_0, b_X5_seen_4, b_X5_seen_7, b_X5_seen_13, b_X5_seen_16, b_X5_seen_19, b_X5_seen_31, b_X5_seen_34, b_X5_seen_47, s_isLean, s_isIn, am_C_v, am_C_0, am_ue, if_true, if_false, eq_self, am_10, ite_not, Nat.reduceEqDiff, reduceIte, am_bI_f h1]
    · simp only [d_X6_seen, b_X6_seen_0, b_X6_seen_4, b_X6_seen_7, b_X6_seen_13, b_X6_seen_16, b_X6_seen_19, b_X6_seen_28, b_X6_seen_31, b_X6_seen_43, b_X6_seen_57, s_misLean, s_in, am_C_v, am_C_0, am_ue, if_true, if_false, eq_self, am_10, ite_not, Nat.reduceEqDiff, reduceIte, am_bI_f h1]
theorem s_howIs (X : AMx) (h : List AMc) (x l : Int32) : am_D X 139 [.int x, .int l] h = some (some (.int (am_how x l)), h) := by
  rw [d_X6_howIs, b_X6_howIs_0]
  unfold am_how
  by_cases g : x < l
  · rw [if_pos g, if_neg (Int32.not_le.mpr g), b_X6_howIs_5]
  · rw [if_neg g, if_pos (Int32.not_lt.mp g), b_X6_howIs_9]
    by_cases g2 : x = l
    · rw [if_pos g2, if_pos g2, b_X6_howIs_14]
    · rw [if_neg g2, if_neg g2, b_X6_howIs_18]
theorem s_fits (X : AMx) (R : Nat → Nat → Int32) (Z : Nat → Int32) (A : Nat → Nat → Int32) (Y : Nat → Int32) {n : Nat} (hn : n ≤ 8) (hY : Y 3 = nI n) (x : Int32) {p : Prop} [Decidable p] (hp : p ↔ am_fit (A 7) n x) : am_D X 140 [.ref 88, .int x] (am_WH R Z A Y) = some (some (.int (am_bI p)), am_WH R Z A Y) := by
  rw [d_X6_fits, b_X6_fits_0]
  have dead : ∀ d k, k + d = n → am_E X AM_X6_fits 4 [some (.ref 88), some (.int x), some (.int 0), some (.int (nI k))] [] (am_WH R Z A Y) = some (some (.int 0), am_WH R Z A Y) := by
    intro d
    induction d with
    | zero =>
      intro k hk
      obtain rfl : k = n := by omega
      rw [b_X6_fits_4, hY, if_pos (Int32.le_refl _), b_X6_fits_53, if_pos rfl]
    | succ d ih =>
      intro k hk
      rw [b_X6_fits_4, hY, if_neg (nI_ge (by omega) (by omega)), b_X6_fits_12, if_pos rfl, b_X6_fits_45, nI_1]
      exact ih (k + 1) (by omega)
  refine am_loopI (E := fun k => am_E X AM_X6_fits 4 [some (.ref 88), some (.int x), some (.int 1), some (.int (nI k))] [] (am_WH R Z A Y)) (fun k => am_fit (A 7) k x) n (fun i hi => absurd hi (Nat.not_lt_zero i)) ?_ ?_
  · intro hi
    try dsimp only
    rw [b_X6_fits_4, hY, if_pos (Int32.le_refl _), b_X6_fits_53, if_neg (by decide), if_pos rfl, am_bI_t (hp.mpr hi)]
  · intro k hk hi
    try dsimp only
    have e2k : (2 : Int32) * nI k = nI (2 * k) := pk_mul 2 k
    rw [b_X6_fits_4, hY, if_neg (nI_ge (by omega) (by omega)), b_X6_fits_12, if_neg (by decide), b_X6_fits_16, e2k, if_pos (am_in_nI (by omega) (by omega)), am_cl (by omega), b_X6_fits_25, s_howIs, am_C_v, b_X6_fits_28, e2k, nI_1, if_pos (am_in_nI (by omega) (by omega)), am_cl (by omega), b_X6_fits_38]
    by_cases g : am_how x (A 7 (2 * k)) = A 7 (2 * k + 1)
    · rw [if_pos g, b_X6_fits_41, nI_1]
      exact Or.inr ⟨am_fit_s.mpr ⟨hi, g⟩, rfl⟩
    · rw [if_neg g, b_X6_fits_45, nI_1, dead (n - (k + 1)) (k + 1) (by omega), am_bI_f (fun z => g (hp.mp z k hk))]
      exact Or.inl rfl
theorem aw_sub0 {i x : Int32} (h : i - x = 0) : i = x := by
  have := congrArg (fun z => z + x) h
  rwa [Int32.sub_add_cancel, Int32.zero_add] at this
theorem aw_sub1 (i x : Int32) : i - x + -1 = i - (x + 1) := by
  rw [Int32.sub_eq_add_neg, Int32.sub_eq_add_neg, Int32.neg_add, Int32.sub_eq_add_neg, Int32.add_assoc]
/-- the i-th of a set; of -1, how many -/
def aw_dn (P : Nat → Bool) (i : Int32) : Nat → Nat → Nat → Int32
  | 0, _, c => if i = -1 then nI c else -6
  | d + 1, k, c => if P k = true then (if nI c = i then nI k - 9 + 10 else aw_dn P i d (k + 1) (c + 1)) else aw_dn P i d (k + 1) c
theorem aw_dn_m {P : Nat → Bool} : ∀ {d k c : Nat}, c ≤ k → k + d < 1000 → aw_dn P (-1) d k c = nI (c + (fb_ct P (k + d) - fb_ct P k))
  | 0, k, c, _, _ => by
    show (if (-1 : Int32) = -1 then nI c else -6) = _
    rw [if_pos rfl, Nat.add_zero, Nat.sub_self, Nat.add_zero]
  | d + 1, k, c, h1, h2 => by
    have m := fb_ct_mono P (show k + 1 ≤ k + (d + 1) by omega)
    have s := fb_ct_succ P k
    show (if P k = true then (if nI c = -1 then _ else aw_dn P (-1) d (k + 1) (c + 1)) else aw_dn P (-1) d (k + 1) c) = _
    by_cases g : P k = true
    · rw [if_pos g] at s
      have : ¬ nI c = -1 := fun z => by
        have := congrArg Int32.toInt z
        rw [nI_toInt (by omega)] at this
        have e : (-1 : Int32).toInt = -1 := rfl
        omega
      rw [if_pos g, if_neg this, aw_dn_m (by omega) (by omega)]
      congr 1
      rw [show k + 1 + d = k + (d + 1) by omega]
      omega
    · rw [if_neg g] at s
      rw [if_neg g, aw_dn_m (by omega) (by omega)]
      congr 1
      rw [show k + 1 + d = k + (d + 1) by omega]
      omega
theorem op_downs (X : AMx) (i : Int32) : am_OP X 72 141 [.int i] := by
  intro R Z A Y hI
  have v5 : Z 5 = Y 3 ∧ am_rn (Z 5) 0 8 := hI.1 5
  have v6 : am_rn (Z 6) 0 524287 ∧ ∀ v, v < 19 → (bt (Z 6) v = true ↔ am_fit (A 7) (Z 5).toNatClampNeg (nI v - 9)) := hI.1 6
  obtain ⟨n, hn, en⟩ := am_rn_ix v5.2 (n := 9) (by omega) (by omega)
  have eY : Y 3 = nI n := v5.1.symm.trans en
  refine ⟨.int (aw_dn (bt (Z 6)) i 19 0 0), R, Z, A, Y, ?_, ?_, hI⟩
  · by_cases g : i = -1
    · subst g
      have hc : nI (0 + (fb_ct (bt (Z 6)) (0 + 19) - fb_ct (bt (Z 6)) 0)) = nI (fb_ct (bt (Z 6)) 24) := by
        rw [am_ct_small (k := 19) (n := 24) (am_rnw v6.1 (Int.le_refl _) (by omega)) (by omega), Nat.zero_add]; rfl
      rw [aw_dn_m (Nat.le_refl _) (by omega), hc]
      rw [d_X5_downs, b_X5_downs_0, if_pos rfl, b_X5_downs_5, s_bitCount X _ (am_rnw v6.1 (Int.le_refl _) (by omega)), am_C_v, b_X5_downs_15]
    · have key : ∀ d k c, k + d = 19 → am_E X AM_X5_downs 21 [some (.ref 0), some (.int i), some (.int (i - nI c)), some (.int (nI k - 9))] [] (am_WH R Z A Y) = some (some (.int (aw_dn (bt (Z 6)) i d k c)), am_WH R Z A Y) := by
        intro d
        induction d with
        | zero =>
          intro k c hk
          obtain rfl : k = 19 := by omega
          rw [b_X5_downs_21, if_pos (show (9 : Int32) < nI 19 - 9 by decide), b_X5_downs_62]
          rw [aw_dn, if_neg g]
        | succ d ih =>
          intro k c hk
          have hk19 : k < 19 := by omega
          rw [b_X5_downs_21, if_neg (am_ln_lt hk19), b_X5_downs_27, am_ln_9 hk19, s_has, am_C_v, b_X5_downs_41]
          rw [aw_dn]
          by_cases g1 : bt (Z 6) k = true
          · rw [am_bI_t ((am_hs_nI (by omega)).mpr g1), if_neg (by decide), b_X5_downs_44, if_pos g1]
            by_cases g2 : nI c = i
            · rw [if_pos g2, if_pos (show i - nI c = 0 by rw [g2]; exact Int32.sub_self i), b_X5_downs_48]
            · rw [if_neg g2, if_neg (show ¬ i - nI c = 0 from fun z => g2 (aw_sub0 z).symm), b_X5_downs_53, am_ln_1 hk19, show i - nI c + -1 = i - nI (c + 1) by rw [← nI_1]; exact aw_sub1 i (nI c)]
              exact ih (k + 1) (c + 1) (by omega)
          · rw [am_bI_f (fun z => g1 ((am_hs_nI (by omega)).mp z)), if_pos rfl, b_X5_downs_56, am_ln_1 hk19, if_neg g1]
            exact ih (k + 1) c (by omega)
      rw [d_X5_downs, b_X5_downs_0, if_neg g, b_X5_downs_16]
      have k := key 19 0 0 (by omega)
      rw [show i - nI 0 = i from Int32.sub_zero i] at k
      exact k
  · have key : ∀ d k c, k + d = 19 → am_E X AM_X6_downs 5 [some (.ref 88), some (.int i), some (.int (nI c)), some (.int (nI k - 9))] [] (am_WH R Z A Y) = some (some (.int (aw_dn (bt (Z 6)) i d k c)), am_WH R Z A Y) := by
      intro d
      induction d with
      | zero =>
        intro k c hk
        obtain rfl : k = 19 := by omega
        rw [b_X6_downs_5, if_pos (show (10 : Int32) ≤ nI 19 - 9 by decide), b_X6_downs_38, aw_dn]
        by_cases g : i = -1
        · rw [if_pos g, if_pos g, b_X6_downs_43]
        · rw [if_neg g, if_neg g, b_X6_downs_47]
      | succ d ih =>
        intro k c hk
        have hk19 : k < 19 := by omega
        rw [b_X6_downs_5, if_neg ((by decide +kernel : ∀ k, k < 19 → ¬ (10 : Int32) ≤ nI k - 9) k hk19), b_X6_downs_11, s_fits X R Z A Y (n := n) (by omega) eY (nI k - 9) (p := bt (Z 6) k = true) (by rw [v6.2 k hk19, en, am_cl (by omega)]), am_C_v, b_X6_downs_16, aw_dn]
        by_cases g1 : bt (Z 6) k = true
        · rw [am_bI_t g1, if_neg (by decide), b_X6_downs_19, if_pos g1]
          by_cases g2 : nI c = i
          · rw [if_pos g2, if_pos g2, b_X6_downs_24]
          · rw [if_neg g2, if_neg g2, b_X6_downs_29, am_ln_1 hk19, nI_1]
            exact ih (k + 1) (c + 1) (by omega)
        · rw [am_bI_f g1, if_pos rfl, b_X6_downs_32, am_ln_1 hk19, if_neg g1]
          exact ih (k + 1) c (by omega)
    rw [d_X6_downs, b_X6_downs_0]
    exact key 19 0 0 (by omega)
