/-! settle, again: creeds year by year. -/
/-- what does not touch what is now, the pad, the images -/
theorem am_INV_congr {R R' : Nat → Nat → Int32} {Z Z' : Nat → Int32} {A A' : Nat → Nat → Int32} {Y Y' : Nat → Int32} (hR : ∀ j, j < 9 ∨ (18 ≤ j ∧ j < 37) → R' j = R j) (hZ : ∀ j, j < 7 ∨ (14 ≤ j ∧ j < 29) ∨ j = 37 → Z' j = Z j) (hA : ∀ j, j ≠ 1 → j ≠ 9 → j ≠ 10 → j ≠ 11 → A' j = A j) (hY : ∀ j, j < 5 → Y' j = Y j) (h : am_INV R Z A Y) : am_INV R' Z' A' Y' := by
  refine ⟨?_, ?_, ?_⟩
  · unfold am_VN
    rw [hA 0 (by omega) (by omega) (by omega) (by omega), hA 2 (by omega) (by omega) (by omega) (by omega), hA 3 (by omega) (by omega) (by omega) (by omega), hA 4 (by omega) (by omega) (by omega) (by omega), hA 5 (by omega) (by omega) (by omega) (by omega), hA 6 (by omega) (by omega) (by omega) (by omega), hA 7 (by omega) (by omega) (by omega) (by omega), hY 0 (by omega), hY 1 (by omega), hY 2 (by omega), hY 3 (by omega)]
    exact am_VR_congr (fun j hj => hR j (Or.inl hj)) (fun j hj => hZ j (Or.inl hj)) (fun _ _ => rfl) (fun _ _ => rfl) (fun _ _ => rfl) (fun _ _ => rfl) (fun _ _ => rfl) (fun _ _ => rfl) (fun _ _ => rfl) rfl rfl rfl rfl h.1
  · exact am_inh_PD h.2.1 (hZ 28 (Or.inr (Or.inl ⟨by omega, by omega⟩))) (hY 4 (by omega)) (hR 36 (Or.inr ⟨by omega, by omega⟩)) (hA 8 (by omega) (by omega) (by omega) (by omega))
  · exact am_IM_congr (fun k h1 h2 => hR k (Or.inr ⟨h1, by omega⟩)) (fun k h1 h2 => hZ k (Or.inr (Or.inl ⟨h1, by omega⟩))) (hZ 37 (Or.inr (Or.inr rfl))) (hA 12 (by omega) (by omega) (by omega) (by omega)) (hA 13 (by omega) (by omega) (by omega) (by omega)) h.2.2
theorem aw_tn {x : Int32} {m : Int} {n : Nat} (h : am_rn x 0 m) (hm : m < n) (hn : n < 2 ^ 31) : x = nI x.toNatClampNeg ∧ x.toNatClampNeg < n := by
  obtain ⟨i, hi, rfl⟩ := am_rn_ix h hm hn
  rw [am_cl (by omega)]
  exact ⟨rfl, hi⟩
/-- of a set, how many hold a creed -/
def aw_hc (s : Int32) (d : Nat → Nat) (c n : Nat) : Nat := fb_ct (fun x => bt s x && decide (d x = c)) n
/-- the choice, as the class makes it; as the reference does -/
def aw_cl (h : Nat → Nat) (own : Nat) : Nat → Nat
  | 0 => own
  | n + 1 => if h (aw_cl h own n) < h n then n else aw_cl h own n
def aw_rb (h : Nat → Nat) (own : Nat) : Nat → Nat
  | 0 => 0
  | n + 1 => if h (aw_rb h own n) < h (n + 1) ∨ (h (n + 1) = h (aw_rb h own n) ∧ n + 1 = own) then n + 1 else aw_rb h own n
theorem aw_cl_lt {h : Nat → Nat} {own m : Nat} (ho : own < m) : ∀ {n : Nat}, n ≤ m → aw_cl h own n < m
  | 0, _ => ho
  | n + 1, hn => by
    have ih := aw_cl_lt (h := h) ho (n := n) (by omega)
    rw [aw_cl]
    split
    · omega
    · exact ih
theorem aw_rb_lt {h : Nat → Nat} {own : Nat} : ∀ {n : Nat}, aw_rb h own n ≤ n
  | 0 => Nat.le_refl _
  | n + 1 => by
    have ih := aw_rb_lt (h := h) (own := own) (n := n)
    rw [aw_rb]
    split <;> omega
theorem aw_cl_s (h : Nat → Nat) (own n : Nat) : (h (aw_cl h own n) < h n ∧ aw_cl h own (n + 1) = n) ∨ (h n ≤ h (aw_cl h own n) ∧ aw_cl h own (n + 1) = aw_cl h own n) := by
  by_cases g : h (aw_cl h own n) < h n
  · exact Or.inl ⟨g, by rw [aw_cl, if_pos g]⟩
  · exact Or.inr ⟨by omega, by rw [aw_cl, if_neg g]⟩
theorem aw_rb_s (h : Nat → Nat) (own n : Nat) : ((h (aw_rb h own n) < h (n + 1) ∨ (h (n + 1) = h (aw_rb h own n) ∧ n + 1 = own)) ∧ aw_rb h own (n + 1) = n + 1) ∨ (¬ (h (aw_rb h own n) < h (n + 1) ∨ (h (n + 1) = h (aw_rb h own n) ∧ n + 1 = own)) ∧ aw_rb h own (n + 1) = aw_rb h own n) := by
  by_cases g : h (aw_rb h own n) < h (n + 1) ∨ (h (n + 1) = h (aw_rb h own n) ∧ n + 1 = own)
  · exact Or.inl ⟨g, by rw [aw_rb, if_pos g]⟩
  · exact Or.inr ⟨g, by rw [aw_rb, if_neg g]⟩
theorem aw_cl_rb (h : Nat → Nat) {own : Nat} (ho : own < 3) : aw_rb h own 2 = aw_cl h own 3 := by
  have c1 := aw_cl_s h own 0
  have c2 := aw_cl_s h own 1
  have c3 := aw_cl_s h own 2
  have r1 := aw_rb_s h own 0
  have r2 := aw_rb_s h own 1
  rw [show 0 + 1 = 1 from rfl] at c1 r1
  rw [show 1 + 1 = 2 from rfl] at c2 r2
  rw [show 2 + 1 = 3 from rfl] at c3
  rw [show aw_cl h own 0 = own from rfl] at c1
  rw [show aw_rb h own 0 = 0 from rfl] at r1
  have e : own = 0 ∨ own = 1 ∨ own = 2 := by omega
  rcases c1 with ⟨p1, e1⟩ | ⟨p1, e1⟩ <;> rw [e1] at c2 <;> rcases c2 with ⟨p2, e2⟩ | ⟨p2, e2⟩ <;> rw [e2] at c3 <;> rcases c3 with ⟨p3, e3⟩ | ⟨p3, e3⟩ <;> rcases r1 with ⟨q1, f1⟩ | ⟨q1, f1⟩ <;> rw [f1] at r2 <;> rcases r2 with ⟨q2, f2⟩ | ⟨q2, f2⟩ <;> rw [e3, f2] <;> rcases e with rfl | rfl | rfl <;> omega
theorem aw_cl_0 {h : Nat → Nat} {own : Nat} (h0 : ∀ c, h c = 0) : ∀ n, aw_cl h own n = own
  | 0 => rfl
  | n + 1 => by rw [aw_cl, aw_cl_0 h0 n, h0, h0, if_neg (by omega)]
/-- his kin who are there -/
def aw_set (th : Int32) (kn : Nat → Int32) (k : Nat) : Int32 := if bt th k = true then kn k &&& th else 0
/-- a year -/
def aw_y (th : Int32) (kn : Nat → Int32) (d : Nat → Nat) (k : Nat) : Nat := aw_cl (fun c => aw_hc (aw_set th kn k) d c 7) (d k) 3
def aw_it (th : Int32) (kn : Nat → Int32) (d : Nat → Nat) : Nat → Nat → Nat
  | 0 => d
  | n + 1 => aw_y th kn (aw_it th kn d n)
theorem aw_y_lt {th : Int32} {kn : Nat → Int32} {d : Nat → Nat} {k : Nat} (h : d k < 3) : aw_y th kn d k < 3 := aw_cl_lt h (Nat.le_refl _)
theorem aw_it_lt {th : Int32} {kn : Nat → Int32} {d : Nat → Nat} {k : Nat} (h : d k < 3) : ∀ n, aw_it th kn d n k < 3
  | 0 => h
  | n + 1 => aw_y_lt (aw_it_lt h n)
theorem aw_hc_le (s : Int32) (d : Nat → Nat) (c n : Nat) : aw_hc s d c n ≤ n := fb_ct_le _ n
theorem aw_hc_cong {s : Int32} {d d' : Nat → Nat} {c n : Nat} (h : ∀ x, x < n → bt s x = true → d x = d' x) : aw_hc s d c n = aw_hc s d' c n := fb_ct_cong (fun x hx => by
  cases e : bt s x
  · rfl
  · rw [h x hx e])
theorem aw_set_th {th : Int32} {kn : Nat → Int32} {k x : Nat} (h : bt (aw_set th kn k) x = true) : bt th x = true := by
  unfold aw_set at h
  split at h
  · rw [b_and, Bool.and_eq_true] at h; exact h.2
  · rw [b_0] at h; cases h
theorem aw_y_cong {th : Int32} {kn : Nat → Int32} {d d' : Nat → Nat} (h : ∀ x, x < 7 → bt th x = true → d x = d' x) {k : Nat} (hk : k < 7) (ht : bt th k = true) : aw_y th kn d k = aw_y th kn d' k := by
  unfold aw_y
  rw [h k hk ht]
  congr 1
  funext c
  exact aw_hc_cong (fun x hx hb => h x hx (aw_set_th hb))
theorem aw_hc_0 (d : Nat → Nat) (c n : Nat) : aw_hc 0 d c n = 0 := aw_ct_no (fun v _ => by rw [b_0]; rfl)
theorem aw_y_no {th : Int32} {kn : Nat → Int32} {d : Nat → Nat} {k : Nat} (ht : aw_set th kn k = 0) : aw_y th kn d k = d k := by
  unfold aw_y
  rw [ht]
  exact aw_cl_0 (fun c => aw_hc_0 d c 7) 3
theorem aw_it_cong {th : Int32} {kn : Nat → Int32} {d d' : Nat → Nat} (h : ∀ x, x < 7 → bt th x = true → d x = d' x) : ∀ n k, k < 7 → bt th k = true → aw_it th kn d n k = aw_it th kn d' n k
  | 0, k, hk, ht => h k hk ht
  | n + 1, k, hk, ht => aw_y_cong (aw_it_cong h n) hk ht
theorem aw_it_no {th : Int32} {kn : Nat → Int32} {d : Nat → Nat} {k : Nat} (ht : ¬ bt th k = true) : ∀ n, aw_it th kn d n k = d k
  | 0 => rfl
  | n + 1 => (aw_y_no (by unfold aw_set; rw [if_neg ht])).trans (aw_it_no ht n)
/-! the class -/
theorem s_holdersOf (X : AMx) (R : Nat → Nat → Int32) (Z : Nat → Int32) (A : Nat → Nat → Int32) (Y : Nat → Int32) {d : Nat → Nat} (hd : ∀ k, k < 7 → R 37 k = nI (d k) ∧ d k < 3) (s : Int32) {c : Nat} (hc : c < 3) : am_D X 19 [.ref 43, .int (nI c), .int s] (am_WH R Z A Y) = some (some (.int (nI (aw_hc s d c 7))), am_WH R Z A Y) := by
  rw [d_X2_holdersOf, b_X2_holdersOf_0]
  refine am_loop (E := fun j => am_E X AM_X2_holdersOf 5 [some (.ref 43), some (.int (nI c)), some (.int s), some (.int (nI (aw_hc s d c j))), some (.int (nI j))] [] (am_WH R Z A Y)) 7 ?_ ?_
  · try dsimp only
    rw [b_X2_holdersOf_5, if_pos (show (7 : Int32) ≤ nI 7 from Int32.le_refl _), b_X2_holdersOf_48]
  · intro k hk
    try dsimp only
    have hs : aw_hc s d c (k + 1) = aw_hc s d c k + (if (bt s k && decide (d k = c)) = true then 1 else 0) := rfl
    have hs0 : ¬ (bt s k && decide (d k = c)) = true → aw_hc s d c (k + 1) = aw_hc s d c k := fun z => by rw [hs, if_neg z]; rfl
    rw [b_X2_holdersOf_5, if_neg (show ¬ (7 : Int32) ≤ nI k from nI_ge (a := k) (b := 7) (by omega) (by omega)), b_X2_holdersOf_12, s_has, am_C_v, b_X2_holdersOf_19]
    by_cases g1 : bt s k = true
    · rw [am_bI_t ((am_hs_nI (by omega)).mpr g1), if_neg (by decide), b_X2_holdersOf_22, d_X1_get_44, am_rg_nI hk (by omega), am_C_v, b_X2_holdersOf_31, (hd k hk).1]
      have hdk := (hd k hk).2
      by_cases g2 : d k = c
      · rw [if_pos (by rw [g2]), b_X2_holdersOf_35, nI_1, nI_1, hs, if_pos (by simp [g1, g2])]
      · rw [if_neg (fun z => g2 ((nI_eq (by omega) (by omega)).mp z)), b_X2_holdersOf_39, nI_1, Int32.add_zero, hs0 (by simp [g2])]
    · rw [am_bI_f (fun z => g1 ((am_hs_nI (by omega)).mp z)), if_pos rfl, b_X2_holdersOf_39, nI_1, Int32.add_zero, hs0 (by simp [g1])]
theorem s_choiceOf (X : AMx) (R : Nat → Nat → Int32) (Z : Nat → Int32) (A : Nat → Nat → Int32) (Y : Nat → Int32) {d : Nat → Nat} (hd : ∀ k, k < 7 → R 37 k = nI (d k) ∧ d k < 3) {k : Nat} (hk : k < 7) : am_D X 18 [.ref 43, .int (nI k), .ref 1] (am_WH R Z A Y) = some (some (.int (nI (aw_y (Z 1) (R 3) d k))), am_WH R Z A Y) := by
  have key : ∀ s, aw_set (Z 1) (R 3) k = s → am_C X AM_X2_choiceOf 43 [some (.ref 43), some (.int (nI k)), some (.ref 1), some (.int (nI (d k))), some (.int s), none, none, none] [] (am_D X 19 [.ref 43, .int (nI (d k)), .int s] (am_WH R Z A Y)) = some (some (.int (nI (aw_y (Z 1) (R 3) d k))), am_WH R Z A Y) := by
    intro s hs
    rw [s_holdersOf X R Z A Y hd s (hd k hk).2, am_C_v, b_X2_choiceOf_43]
    have ey : aw_y (Z 1) (R 3) d k = aw_cl (fun c => aw_hc s d c 7) (d k) 3 := by unfold aw_y; rw [hs]
    rw [ey]
    have loop : ∀ m n y, n + m = 3 → am_E X AM_X2_choiceOf 48 [some (.ref 43), some (.int (nI k)), some (.ref 1), some (.int (nI (aw_cl (fun c => aw_hc s d c 7) (d k) n))), some (.int s), some (.int (nI (aw_hc s d (aw_cl (fun c => aw_hc s d c 7) (d k) n) 7))), some (.int (nI n)), y] [] (am_WH R Z A Y) = some (some (.int (nI (aw_cl (fun c => aw_hc s d c 7) (d k) 3))), am_WH R Z A Y) := by
      intro m
      induction m with
      | zero =>
        intro n y hn
        obtain rfl : n = 3 := by omega
        rw [b_X2_choiceOf_48, if_pos (show (3 : Int32) ≤ nI 3 by decide), b_X2_choiceOf_84]
      | succ m ih =>
        intro n y hn
        have b1 := aw_hc_le s d n 7
        have b2 := aw_hc_le s d (aw_cl (fun c => aw_hc s d c 7) (d k) n) 7
        have ih' := fun y => ih (n + 1) y (by omega)
        rw [b_X2_choiceOf_48, if_neg (show ¬ (3 : Int32) ≤ nI n from nI_ge (a := n) (b := 3) (by omega) (by omega)), b_X2_choiceOf_54, s_holdersOf X R Z A Y hd s (show n < 3 by omega), am_C_v, b_X2_choiceOf_62]
        by_cases g : aw_hc s d (aw_cl (fun c => aw_hc s d c 7) (d k) n) 7 < aw_hc s d n 7
        · rw [aw_cl, if_pos g] at ih'
          rw [if_neg (fun z => by have := (nI_leI (by omega) (by omega)).mp z; omega), b_X2_choiceOf_71, nI_1]
          exact ih' _
        · rw [aw_cl, if_neg g] at ih'
          rw [if_pos ((nI_leI (by omega) (by omega)).mpr (by omega)), b_X2_choiceOf_78, nI_1]
          exact ih' _
    exact loop 3 0 none (by omega)
  rw [d_X2_choiceOf, b_X2_choiceOf_0, d_X1_get_44, am_rg_nI hk (by omega), am_C_v, (hd k hk).1, b_X2_choiceOf_8, s_isThere, am_C_v, b_X2_choiceOf_14]
  by_cases g : bt (Z 1) k = true
  · rw [am_bI_t ((am_hs_nI (by omega)).mpr g), if_neg (by decide), b_X2_choiceOf_17, d_X1_get_8, am_rg_nI hk (by omega), am_C_v, b_X2_choiceOf_25]
    exact key _ (by unfold aw_set; rw [if_pos g])
  · rw [am_bI_f (fun z => g ((am_hs_nI (by omega)).mp z)), if_pos rfl, b_X2_choiceOf_33]
    exact key _ (by unfold aw_set; rw [if_neg g])
theorem s_passYear (X : AMx) (R : Nat → Nat → Int32) (Z : Nat → Int32) (A : Nat → Nat → Int32) (Y : Nat → Int32) {d : Nat → Nat} (hd : ∀ k, k < 7 → R 37 k = nI (d k) ∧ d k < 3) : ∃ R', (∀ j, j ≠ 37 → j ≠ 38 → R' j = R j) ∧ (∀ k, k < 7 → R' 37 k = nI (aw_y (Z 1) (R 3) d k) ∧ aw_y (Z 1) (R 3) d k < 3) ∧ am_D X 17 [.ref 43, .ref 1] (am_WH R Z A Y) = some (none, am_WH R' Z A Y) := by
  have loop : ∀ m n t, n + m = 7 → (∀ k, k < n → t k = nI (aw_y (Z 1) (R 3) d k)) → ∃ R', (∀ j, j ≠ 37 → j ≠ 38 → R' j = R j) ∧ (∀ k, k < 7 → R' 37 k = nI (aw_y (Z 1) (R 3) d k) ∧ aw_y (Z 1) (R 3) d k < 3) ∧ am_E X AM_X2_passYear 2 [some (.ref 43), some (.ref 1), some (.int (nI n))] [] (am_WH (am_up R 38 t) Z A Y) = some (none, am_WH R' Z A Y) := by
    intro m
    induction m with
    | zero =>
      intro n t hn ht
      obtain rfl : n = 7 := by omega
      refine ⟨am_up (am_up R 38 t) 37 (am_rc 7 (R 37) t), fun j h1 h2 => by rw [am_up_n _ _ h1, am_up_n _ _ h2], fun k hk => ⟨?_, aw_y_lt (hd k hk).2⟩, ?_⟩
      · rw [am_up_s]
        unfold am_rc
        rw [if_pos hk, ht k hk]
      · rw [b_X2_passYear_2, if_pos (show (7 : Int32) ≤ nI 7 from Int32.le_refl _), b_X2_passYear_28, d_X1_copyFrom_44_46, am_C_0, b_X2_passYear_39, am_up_s, am_up_n R t (show (37 : Nat) ≠ 38 by omega)]
    | succ m ih =>
      intro n t hn ht
      rw [b_X2_passYear_2, if_neg (show ¬ (7 : Int32) ≤ nI n from nI_ge (a := n) (b := 7) (by omega) (by omega)), b_X2_passYear_8, s_choiceOf X (am_up R 38 t) Z A Y (d := d) hd (show n < 7 by omega), am_C_v, b_X2_passYear_19, d_X1_set_46, am_rs_nI (by omega) (by omega), am_C_0, b_X2_passYear_22, nI_1, am_up_s, am_uu]
      refine ih (n + 1) _ (by omega) (fun k hk => ?_)
      by_cases e : k = n
      · subst e; rw [upd_s]; rfl
      · rw [upd_n _ _ e]; exact ht k (by omega)
  have eR : am_up R 38 (R 38) = R := by funext j; rw [am_ue]; split <;> simp_all
  have k := loop 7 0 (R 38) (by omega) (fun k hk => absurd hk (Nat.not_lt_zero k))
  rw [eR] at k
  rw [d_X2_passYear, b_X2_passYear_0]
  exact k
/-- the class's years -/
theorem s_start (X : AMx) (R : Nat → Nat → Int32) (Z : Nat → Int32) (A : Nat → Nat → Int32) (Y : Nat → Int32) : am_D X 16 [.ref 43, .ref 1] (am_WH R Z A Y) = some (none, am_WH (am_up R 37 (am_rc 7 (R 37) (R 1))) Z A Y) := by
  rw [d_X2_start, b_X2_start_0, d_X1_copyFrom_44_4, am_C_0, b_X2_start_11]
/-! the reference -/
/-- creeds as a number: the digits from 6 down -/
def aw_cd (d : Nat → Nat) : Nat → Nat
  | 0 => 0
  | j + 1 => 3 * aw_cd d j + d (6 - j)
theorem aw_cd_lt {d : Nat → Nat} (hd : ∀ k, k < 7 → d k < 3) : ∀ {j : Nat}, j ≤ 7 → aw_cd d j < 3 ^ j
  | 0, _ => (show (0 : Nat) < 1 by omega)
  | j + 1, h => by
    have ih := aw_cd_lt hd (j := j) (by omega)
    have := hd (6 - j) (by omega)
    rw [aw_cd, Nat.pow_succ]
    omega
theorem aw_cd_lt7 {d : Nat → Nat} (hd : ∀ k, k < 7 → d k < 3) : aw_cd d 7 < 2187 := aw_cd_lt hd (Nat.le_refl _)
theorem aw_cd_le {d : Nat → Nat} (hd : ∀ k, k < 7 → d k < 3) {j : Nat} (h : j ≤ 7) : aw_cd d j < 2187 := Nat.lt_of_lt_of_le (aw_cd_lt hd h) (Nat.pow_le_pow_right (n := 3) (by omega) h)
theorem aw_cd_cong {d d' : Nat → Nat} : ∀ {j : Nat}, j ≤ 7 → (∀ k, k < 7 → d k = d' k) → aw_cd d j = aw_cd d' j
  | 0, _, _ => rfl
  | j + 1, h, e => by rw [aw_cd, aw_cd, aw_cd_cong (by omega) e, e (6 - j) (by omega)]
theorem aw_cd_div {d : Nat → Nat} (hd : ∀ k, k < 7 → d k < 3) {j : Nat} (h : j < 7) : aw_cd d (j + 1) / 3 = aw_cd d j ∧ aw_cd d (j + 1) % 3 = d (6 - j) := by
  have := hd (6 - j) (by omega)
  rw [aw_cd]
  omega
theorem s_creedIn (X : AMx) (h : List AMc) {d : Nat → Nat} (hd : ∀ k, k < 7 → d k < 3) {k : Nat} (hk : k < 7) : am_D X 144 [.int (nI (aw_cd d 7)), .int (nI k)] h = some (some (.int (nI (d k))), h) := by
  rw [d_X6_creedIn, b_X6_creedIn_0]
  refine am_loop (E := fun i => am_E X AM_X6_creedIn 4 [some (.int (nI (aw_cd d 7))), some (.int (nI k)), some (.int (nI (aw_cd d (7 - i)))), some (.int (nI i))] [] h) k ?_ ?_
  · try dsimp only
    have e := (aw_cd_div hd (j := 6 - k) (by omega)).2
    rw [show 6 - k + 1 = 7 - k by omega, show 6 - (6 - k) = k by omega] at e
    have b := aw_cd_le hd (j := 7 - k) (by omega)
    rw [b_X6_creedIn_4, if_pos (Int32.le_refl _), b_X6_creedIn_19, show (3 : Int32) = nI 3 from rfl, pk_rem (by omega) (by omega) (by omega), e]
  · intro i hi
    try dsimp only
    have e := (aw_cd_div hd (j := 6 - i) (by omega)).1
    rw [show 6 - i + 1 = 7 - i by omega, show 6 - i = 7 - (i + 1) by omega] at e
    have b := aw_cd_le hd (j := 7 - i) (by omega)
    rw [b_X6_creedIn_4, if_neg (show ¬ nI k ≤ nI i from nI_ge hi (by omega)), b_X6_creedIn_9, nI_1, show (3 : Int32) = nI 3 from rfl, pk_div (by omega) (by omega) (by omega), e]
/-- what the reference begins with -/
def aw_d0 (th : Int32) (cr : Nat → Int32) (k : Nat) : Nat := if bt th k = true then (cr k).toNatClampNeg else 0
theorem s_creedsNow (X : AMx) (R : Nat → Nat → Int32) (Z : Nat → Int32) (A : Nat → Nat → Int32) (Y : Nat → Int32) (hcr : ∀ k, k < 7 → am_rn (A 0 k) 0 2) : am_D X 143 [.ref 88] (am_WH R Z A Y) = some (some (.int (nI (aw_cd (aw_d0 (Y 0) (A 0)) 7))), am_WH R Z A Y) := by
  have key : ∀ m, m ≤ 7 → am_E X AM_X6_creedsNow 5 [some (.ref 88), some (.int (nI (aw_cd (aw_d0 (Y 0) (A 0)) (7 - m)))), some (.int (nI m + -1))] [] (am_WH R Z A Y) = some (some (.int (nI (aw_cd (aw_d0 (Y 0) (A 0)) 7))), am_WH R Z A Y) := by
    intro m
    induction m with
    | zero =>
      intro _
      rw [b_X6_creedsNow_5, if_pos (show nI 0 + -1 < 0 by decide), b_X6_creedsNow_41]
    | succ m ih =>
      intro hm
      have e : aw_cd (aw_d0 (Y 0) (A 0)) (7 - m) = 3 * aw_cd (aw_d0 (Y 0) (A 0)) (7 - (m + 1)) + aw_d0 (Y 0) (A 0) m := by
        rw [show 7 - m = 7 - (m + 1) + 1 by omega, aw_cd, show 6 - (7 - (m + 1)) = m by omega]
      have ih' := ih (by omega)
      rw [e] at ih'
      rw [pk_m1, b_X6_creedsNow_5, if_neg (nI_pos (by omega)), b_X6_creedsNow_9, s_mhas, am_C_v, b_X6_creedsNow_20, show (3 : Int32) = nI 3 from rfl, pk_mul]
      by_cases g : bt (Y 0) m = true
      · have ed : aw_d0 (Y 0) (A 0) m = (A 0 m).toNatClampNeg := if_pos g
        have et := (aw_tn (hcr m (by omega)) (n := 3) (by omega) (by omega)).1
        rw [am_bI_t ((b_one m (by omega) _).mpr g), if_neg (by decide), b_X6_creedsNow_23, if_pos (am_in_nI (by omega) (by omega)), am_cl (by omega), b_X6_creedsNow_29, et, nI_add, ← ed]
        exact ih'
      · have ed : aw_d0 (Y 0) (A 0) m = 0 := if_neg g
        rw [ed, Nat.add_zero] at ih'
        rw [am_bI_f (fun z => g ((b_one m (by omega) _).mp z)), if_pos rfl, b_X6_creedsNow_32, Int32.add_zero]
        exact ih'
  rw [d_X6_creedsNow, b_X6_creedsNow_0]
  exact key 7 (Nat.le_refl _)
/-- the reference's count -/
theorem l_mcount (X : AMx) (R : Nat → Nat → Int32) (Z : Nat → Int32) (A : Nat → Nat → Int32) (Y : Nat → Int32) {d : Nat → Nat} (hd : ∀ k, k < 7 → d k < 3) (s : Int32) {c : Nat} (hc : c < 3) (l2 l3 l4 l6 l7 : Int32) : am_E X AM_X6_yearOn 51 [some (.ref 88), some (.int (nI (aw_cd d 7))), some (.int l2), some (.int l3), some (.int l4), some (.int s), some (.int l6), some (.int l7), some (.int (nI c)), some (.int 0), some (.int 0)] [] (am_WH R Z A Y) = am_E X AM_X6_yearOn 95 [some (.ref 88), some (.int (nI (aw_cd d 7))), some (.int l2), some (.int l3), some (.int l4), some (.int s), some (.int l6), some (.int l7), some (.int (nI c)), some (.int (nI (aw_hc s d c 7))), some (.int (nI 7))] [] (am_WH R Z A Y) := by
  refine am_loop (E := fun j => am_E X AM_X6_yearOn 51 [some (.ref 88), some (.int (nI (aw_cd d 7))), some (.int l2), some (.int l3), some (.int l4), some (.int s), some (.int l6), some (.int l7), some (.int (nI c)), some (.int (nI (aw_hc s d c j))), some (.int (nI j))] [] (am_WH R Z A Y)) 7 ?_ ?_
  · try dsimp only
    rw [b_X6_yearOn_51, if_pos (show (7 : Int32) ≤ nI 7 from Int32.le_refl _)]
  · intro k hk
    try dsimp only
    have hs : aw_hc s d c (k + 1) = aw_hc s d c k + (if (bt s k && decide (d k = c)) = true then 1 else 0) := rfl
    have hs0 : ¬ (bt s k && decide (d k = c)) = true → aw_hc s d c (k + 1) = aw_hc s d c k := fun z => by rw [hs, if_neg z]; rfl
    rw [b_X6_yearOn_51, if_neg (show ¬ (7 : Int32) ≤ nI k from nI_ge (a := k) (b := 7) (by omega) (by omega)), b_X6_yearOn_58, s_mhas, am_C_v, b_X6_yearOn_67]
    by_cases g1 : bt s k = true
    · rw [am_bI_t ((b_one k (by omega) _).mpr g1), if_neg (by decide), b_X6_yearOn_70, s_creedIn X _ hd hk, am_C_v, b_X6_yearOn_76]
      have hdk := hd k hk
      by_cases g2 : d k = c
      · rw [if_pos (by rw [g2]), b_X6_yearOn_81, nI_1, nI_1, hs, if_pos (by simp [g1, g2])]
      · rw [if_neg (fun z => g2 ((nI_eq (by omega) (by omega)).mp z)), b_X6_yearOn_85, nI_1, Int32.add_zero, hs0 (by simp [g2])]
    · rw [am_bI_f (fun z => g1 ((b_one k (by omega) _).mp z)), if_pos rfl, b_X6_yearOn_85, nI_1, Int32.add_zero, hs0 (by simp [g1])]
/-- the reference's choice -/
theorem l_mchoice (X : AMx) (R : Nat → Nat → Int32) (Z : Nat → Int32) (A : Nat → Nat → Int32) (Y : Nat → Int32) {d : Nat → Nat} (hd : ∀ k, k < 7 → d k < 3) (s : Int32) {own : Nat} (ho : own < 3) (l2 l3 : Int32) (y9 y10 : Option Value) : ∃ l7 l8 z9 z10, am_E X AM_X6_yearOn 39 [some (.ref 88), some (.int (nI (aw_cd d 7))), some (.int l2), some (.int l3), some (.int (nI own)), some (.int s), some (.int (nI own)), some (.int (-1)), some (.int 0), y9, y10] [] (am_WH R Z A Y) = am_E X AM_X6_yearOn 157 [some (.ref 88), some (.int (nI (aw_cd d 7))), some (.int l2), some (.int l3), some (.int (nI own)), some (.int s), some (.int (nI (aw_cl (fun c => aw_hc s d c 7) own 3))), some (.int l7), some (.int l8), z9, z10] [] (am_WH R Z A Y) := by
  have hb : ∀ c, aw_hc s d c 7 ≤ 7 := fun c => aw_hc_le s d c 7
  have key : ∀ m n y9 y10, n + m = 2 → ∃ l7 l8 z9 z10, am_E X AM_X6_yearOn 39 [some (.ref 88), some (.int (nI (aw_cd d 7))), some (.int l2), some (.int l3), some (.int (nI own)), some (.int s), some (.int (nI (aw_rb (fun c => aw_hc s d c 7) own n))), some (.int (nI (aw_hc s d (aw_rb (fun c => aw_hc s d c 7) own n) 7))), some (.int (nI (n + 1))), y9, y10] [] (am_WH R Z A Y) = am_E X AM_X6_yearOn 157 [some (.ref 88), some (.int (nI (aw_cd d 7))), some (.int l2), some (.int l3), some (.int (nI own)), some (.int s), some (.int (nI (aw_rb (fun c => aw_hc s d c 7) own 2))), some (.int l7), some (.int l8), z9, z10] [] (am_WH R Z A Y) := by
    intro m
    induction m with
    | zero =>
      intro n y9 y10 hn
      obtain rfl : n = 2 := by omega
      rw [b_X6_yearOn_39, if_pos (show (3 : Int32) ≤ nI (2 + 1) by decide)]
      exact ⟨_, _, _, _, rfl⟩
    | succ m ih =>
      intro n y9 y10 hn
      have b1 := hb (n + 1)
      have b2 := hb (aw_rb (fun c => aw_hc s d c 7) own n)
      have ih' := fun y9 y10 => ih (n + 1) y9 y10 (by omega)
      rw [b_X6_yearOn_39, if_neg (show ¬ (3 : Int32) ≤ nI (n + 1) from nI_ge (a := n + 1) (b := 3) (by omega) (by omega)), b_X6_yearOn_45, l_mcount X R Z A Y hd s (show n + 1 < 3 by omega), b_X6_yearOn_95]
      by_cases g1 : aw_hc s d (aw_rb (fun c => aw_hc s d c 7) own n) 7 < aw_hc s d (n + 1) 7
      · rw [aw_rb, if_pos (Or.inl g1)] at ih'
        rw [if_pos ((nI_ltI (by omega) (by omega)).mpr g1), b_X6_yearOn_116, if_neg (by decide), b_X6_yearOn_128, if_neg (by decide), b_X6_yearOn_142, nI_1]
        exact ih' _ _
      · rw [if_neg (fun z => g1 ((nI_ltI (by omega) (by omega)).mp z)), b_X6_yearOn_102]
        by_cases g2 : aw_hc s d (n + 1) 7 = aw_hc s d (aw_rb (fun c => aw_hc s d c 7) own n) 7
        · rw [if_pos (by rw [g2]), b_X6_yearOn_109]
          by_cases g3 : n + 1 = own
          · rw [aw_rb, if_pos (Or.inr ⟨g2, g3⟩)] at ih'
            rw [if_pos (by rw [g3]), b_X6_yearOn_116, if_neg (by decide), b_X6_yearOn_128, if_neg (by decide), b_X6_yearOn_142, nI_1]
            exact ih' _ _
          · rw [aw_rb, if_neg (fun z => z.elim g1 (fun z => g3 z.2))] at ih'
            rw [if_neg (fun z => g3 ((nI_eq (by omega) (by omega)).mp z)), b_X6_yearOn_120, if_pos rfl, b_X6_yearOn_133, if_pos rfl, b_X6_yearOn_147, nI_1]
            exact ih' _ _
        · rw [aw_rb, if_neg (fun z => z.elim g1 (fun z => g2 z.1))] at ih'
          rw [if_neg (fun z => g2 ((nI_eq (by omega) (by omega)).mp z)), b_X6_yearOn_120, if_pos rfl, b_X6_yearOn_133, if_pos rfl, b_X6_yearOn_147, nI_1]
          exact ih' _ _
  have b0 := hb 0
  have e0 := l_mcount X R Z A Y hd s (c := 0) (by omega) l2 l3 (nI own) (nI own) (-1)
  rw [show nI 0 = (0 : Int32) from rfl] at e0
  rw [b_X6_yearOn_39, if_neg (by decide), b_X6_yearOn_45, e0, b_X6_yearOn_95, if_pos (Int32.lt_iff_toInt_lt.mpr (by rw [nI_toInt (by omega)]; show (-1 : Int) < _; omega)), b_X6_yearOn_116, if_neg (by decide), b_X6_yearOn_128, if_neg (by decide), b_X6_yearOn_142, show (0 : Int32) + 1 = nI (0 + 1) from rfl]
  rw [← aw_cl_rb (fun c => aw_hc s d c 7) ho]
  exact key 2 0 _ _ (by omega)
theorem s_yearOn (X : AMx) (R : Nat → Nat → Int32) (Z : Nat → Int32) (A : Nat → Nat → Int32) (Y : Nat → Int32) {d : Nat → Nat} (hd : ∀ k, k < 7 → d k < 3) : am_D X 145 [.ref 88, .int (nI (aw_cd d 7))] (am_WH R Z A Y) = some (some (.int (nI (aw_cd (aw_y (Y 0) (A 3) d) 7))), am_WH R Z A Y) := by
  have key : ∀ m y4 y5 y6 y7 y8 y9 y10, m ≤ 7 → am_E X AM_X6_yearOn 5 [some (.ref 88), some (.int (nI (aw_cd d 7))), some (.int (nI (aw_cd (aw_y (Y 0) (A 3) d) (7 - m)))), some (.int (nI m + -1)), y4, y5, y6, y7, y8, y9, y10] [] (am_WH R Z A Y) = some (some (.int (nI (aw_cd (aw_y (Y 0) (A 3) d) 7))), am_WH R Z A Y) := by
    intro m
    induction m with
    | zero =>
      intro y4 y5 y6 y7 y8 y9 y10 _
      rw [b_X6_yearOn_5, if_pos (show nI 0 + -1 < 0 by decide), b_X6_yearOn_191]
    | succ m ih =>
      intro y4 y5 y6 y7 y8 y9 y10 hm
      have e : aw_cd (aw_y (Y 0) (A 3) d) (7 - m) = 3 * aw_cd (aw_y (Y 0) (A 3) d) (7 - (m + 1)) + aw_y (Y 0) (A 3) d m := by
        rw [show 7 - m = 7 - (m + 1) + 1 by omega, aw_cd, show 6 - (7 - (m + 1)) = m by omega]
      have ih' := fun y4 y5 y6 y7 y8 y9 y10 => ih y4 y5 y6 y7 y8 y9 y10 (by omega)
      rw [e] at ih'
      rw [pk_m1, b_X6_yearOn_5, if_neg (nI_pos (by omega)), b_X6_yearOn_9, s_creedIn X _ hd (show m < 7 by omega), am_C_v, b_X6_yearOn_14, if_pos (am_in_nI (by omega) (by omega)), am_cl (by omega), b_X6_yearOn_22]
      obtain ⟨l7, l8, z9, z10, e1⟩ := l_mchoice X R Z A Y hd (A 3 m &&& Y 0) (hd m (by omega)) (nI (aw_cd (aw_y (Y 0) (A 3) d) (7 - (m + 1)))) (nI m) y9 y10
      rw [e1, b_X6_yearOn_157, s_mhas, am_C_v, b_X6_yearOn_168, show (3 : Int32) = nI 3 from rfl, pk_mul]
      by_cases g : bt (Y 0) m = true
      · have es : aw_set (Y 0) (A 3) m = A 3 m &&& Y 0 := if_pos g
        rw [am_bI_t ((b_one m (by omega) _).mpr g), if_neg (by decide), b_X6_yearOn_171]
        by_cases g2 : A 3 m &&& Y 0 = 0
        · rw [aw_y_no (es.trans g2)] at ih'
          rw [if_pos g2, b_X6_yearOn_181, nI_add]
          exact ih' _ _ _ _ _ _ _
        · have ey : aw_y (Y 0) (A 3) d m = aw_cl (fun c => aw_hc (A 3 m &&& Y 0) d c 7) (d m) 3 := by unfold aw_y; rw [es]
          rw [ey] at ih'
          rw [if_neg g2, b_X6_yearOn_176, nI_add]
          exact ih' _ _ _ _ _ _ _
      · have es : aw_set (Y 0) (A 3) m = 0 := if_neg g
        rw [aw_y_no es] at ih'
        rw [am_bI_f (fun z => g ((b_one m (by omega) _).mp z)), if_pos rfl, b_X6_yearOn_181, nI_add]
        exact ih' _ _ _ _ _ _ _
  rw [d_X6_yearOn, b_X6_yearOn_0]
  exact key 7 _ _ _ _ _ _ _ (Nat.le_refl _)
theorem op_settle (X : AMx) (a b : Int32) : am_OP X 74 146 [.int a, .int b] := by
  intro R Z A Y hI
  have v1 : Z 1 = Y 0 ∧ am_rn (Z 1) 0 127 := hI.1 1
  have v8 : ∀ i, i < 7 → R 1 i = A 0 i ∧ am_rn (R 1 i) 0 2 := hI.1 8
  have v10 : ∀ i, i < 7 → R 3 i = A 3 i ∧ am_rn (R 3 i) 0 127 := hI.1 10
  have q1 := am_hs_bt v1.2 (k := 7) (by omega) (by omega) a
  have q2 := am_mh_bt (b := Y 0) (k := 7) (by omega) (m := 6) (by decide) a
  by_cases h : ∃ j, j < 7 ∧ a = nI j ∧ bt (Z 1) j = true
  · have h1 := q1.mpr h
    have h2 := q2.mpr (by rw [← v1.1]; exact h)
    obtain ⟨i, hi, rfl, hb⟩ := h
    by_cases h3 : 0 ≤ b ∧ b ≤ 60
    · obtain ⟨n, hn, rfl⟩ := am_ix h3 (n := 61) (by decide) (by omega)
      have hd0 : ∀ k, k < 7 → R 1 k = nI (R 1 k).toNatClampNeg ∧ (R 1 k).toNatClampNeg < 3 := fun k hk => aw_tn (v8 k hk).2 (by omega) (by omega)
      have ekn : ∀ d k, k < 7 → aw_y (Z 1) (R 3) d k = aw_y (Y 0) (A 3) d k := fun d k hk => by
        unfold aw_y aw_set; rw [v1.1, (v10 k hk).1]
      have eit : ∀ n k, k < 7 → aw_it (Z 1) (R 3) (fun k => (R 1 k).toNatClampNeg) n k < 3 := fun n k hk => aw_it_lt (hd0 k hk).2 n
      -- the class
      have loop : ∀ (m y : Nat) (R' : Nat → Nat → Int32), y + m = n → (∀ j, j ≠ 37 → j ≠ 38 → R' j = R j) → (∀ k, k < 7 → R' 37 k = nI (aw_it (Z 1) (R 3) (fun k => (R 1 k).toNatClampNeg) y k) ∧ aw_it (Z 1) (R 3) (fun k => (R 1 k).toNatClampNeg) y k < 3) → ∃ Q, (∀ j, j ≠ 37 → j ≠ 38 → Q j = R j) ∧ am_E X AM_X5_settle 39 [some (.ref 0), some (.int (nI i)), some (.int (nI n)), some (.int (nI y))] [] (am_WH R' Z A Y) = some (some (.int (nI (aw_it (Z 1) (R 3) (fun k => (R 1 k).toNatClampNeg) n i))), am_WH Q Z A Y) := by
        intro m
        induction m with
        | zero =>
          intro y R' hy hR hd
          obtain rfl : y = n := by omega
          exact ⟨R', hR, by rw [b_X5_settle_39, if_pos (Int32.le_refl _), b_X5_settle_61, d_X1_get_44, am_rg_nI hi (by omega), am_C_v, b_X5_settle_72, (hd i hi).1]⟩
        | succ m ih =>
          intro y R' hy hR hd
          obtain ⟨R2, hR2, hd2, e2⟩ := s_passYear X R' Z A Y hd
          rw [b_X5_settle_39, if_neg (nI_ge (by omega) (by omega)), b_X5_settle_44, e2, am_C_0, b_X5_settle_55, nI_1]
          rw [hR 3 (by omega) (by omega)] at hd2
          exact ih (y + 1) R2 (by omega) (fun j h1 h2 => (hR2 j h1 h2).trans (hR j h1 h2)) hd2
      obtain ⟨R', hR', e⟩ := loop n 0 (am_up R 37 (am_rc 7 (R 37) (R 1))) (by omega) (fun j h1 _ => am_up_n _ _ h1) (fun k hk => by
        rw [am_up_s]
        unfold am_rc
        rw [if_pos hk]
        exact hd0 k hk)
      -- the reference
      have hdR : ∀ k, k < 7 → aw_d0 (Y 0) (A 0) k < 3 := fun k hk => by
        unfold aw_d0
        split
        · rw [← (v8 k hk).1]; exact (hd0 k hk).2
        · omega
      have rloop := am_loop (E := fun y => am_E X AM_X6_settle 31 [some (.ref 88), some (.int (nI i)), some (.int (nI n)), some (.int (nI (aw_cd (aw_it (Y 0) (A 3) (aw_d0 (Y 0) (A 0)) y) 7))), some (.int (nI y))] [] (am_WH R' Z A Y)) (r := some (some (.int (nI (aw_it (Y 0) (A 3) (aw_d0 (Y 0) (A 0)) n i))), am_WH R' Z A Y)) n (by
        try dsimp only
        rw [b_X6_settle_31, if_pos (Int32.le_refl _), b_X6_settle_49, s_creedIn X _ (fun k hk => aw_it_lt (hdR k hk) n) hi, am_C_v, b_X6_settle_54]) (by
        intro k hk
        try dsimp only
        rw [b_X6_settle_31, if_neg (nI_ge hk (by omega)), b_X6_settle_37, s_yearOn X R' Z A Y (fun j hj => aw_it_lt (hdR j hj) k), am_C_v, b_X6_settle_42, nI_1]
        rfl)
      have eq : aw_it (Z 1) (R 3) (fun k => (R 1 k).toNatClampNeg) n i = aw_it (Y 0) (A 3) (aw_d0 (Y 0) (A 0)) n i := by
        have e1 : ∀ n k, k < 7 → aw_it (Z 1) (R 3) (fun k => (R 1 k).toNatClampNeg) n k = aw_it (Y 0) (A 3) (fun k => (R 1 k).toNatClampNeg) n k := by
          intro n
          induction n with
          | zero => intro k _; rfl
          | succ n ih =>
            intro k hk
            show aw_y _ _ (aw_it _ _ _ n) k = aw_y _ _ (aw_it _ _ _ n) k
            rw [ekn _ k hk]
            unfold aw_y
            rw [ih k hk]
            congr 1
            funext c
            exact aw_hc_cong (fun x hx _ => ih x hx)
        rw [e1 n i hi]
        refine aw_it_cong (fun x hx hb => ?_) n i hi (by rw [← v1.1]; exact hb)
        show (R 1 x).toNatClampNeg = aw_d0 (Y 0) (A 0) x
        unfold aw_d0
        rw [if_pos hb, (v8 x hx).1]
      refine ⟨.int (nI (aw_it (Z 1) (R 3) (fun k => (R 1 k).toNatClampNeg) n i)), R', Z, A, Y, ?_, ?_, am_INV_congr (fun j hj => hR' j (by omega) (by omega)) (fun _ _ => rfl) (fun _ _ _ _ _ => rfl) (fun _ _ => rfl) hI⟩
      · simp only [d_X5_settle, b_X5_settle_0, b_X5_settle_8, b_X5_settle_11, b_X5_settle_13, b_X5_settle_20, b_X5_settle_23, b_X5_settle_26, b_X5_settle_37, b_X5_settle_44, b_X5_settle_55, b_X5_settle_61, b_X5_settle_72, s_isThere, s_isIn, am_C_v, am_C_0, am_ue, if_true, if_false, eq_self, am_10, ite_not, Nat.reduceEqDiff, reduceIte, am_bI_t h1, am_bI_t h3, s_start]
        exact e
      · rw [eq]
        simp only [d_X6_settle, b_X6_settle_0, b_X6_settle_5, b_X6_settle_8, b_X6_settle_10, b_X6_settle_17, b_X6_settle_20, b_X6_settle_23, b_X6_settle_27, b_X6_settle_37, b_X6_settle_42, b_X6_settle_49, b_X6_settle_54, s_misThere, s_in, am_C_v, am_C_0, am_ue, if_true, if_false, eq_self, am_10, ite_not, Nat.reduceEqDiff, reduceIte, am_bI_t h2, am_bI_t h3, s_creedsNow X R' Z A Y (fun k hk => by rw [← (v8 k hk).1]; exact (v8 k hk).2)]
        exact rloop
    · refine ⟨.int (-2), R, Z, A, Y, ?_, ?_, hI⟩
      · simp only [d_X5_settle, b_X5_settle_0, b_X5_settle_8, b_X5_settle_11, b_X5_settle_13, b_X5_settle_20, b_X5_settle_23, b_X5_settle_26, b_X5_settle_37, b_X5_settle_44, b_X5_settle_55, b_X5_settle_61, b_X5_settle_72, s_isThere, s_isIn, am_C_v, am_C_0, am_ue, if_true, if_false, eq_self, am_10, ite_not, Nat.reduceEqDiff, reduceIte, am_bI_t h1, am_bI_f h3]
      · simp only [d_X6_settle, b_X6_settle_0, b_X6_settle_5, b_X6_settle_8, b_X6_settle_10, b_X6_settle_17, b_X6_settle_20, b_X6_settle_23, b_X6_settle_27, b_X6_settle_37, b_X6_settle_42, b_X6_settle_49, b_X6_settle_54, s_misThere, s_in, am_C_v, am_C_0, am_ue, if_true, if_false, eq_self, am_10, ite_not, Nat.reduceEqDiff, reduceIte, am_bI_t h2, am_bI_f h3]
  · have h1 := fun z => h (q1.mp z)
    have h2 := fun z => h (by rw [v1.1]; exact q2.mp z)
    refine ⟨.int (-1), R, Z, A, Y, ?_, ?_, hI⟩
    · simp only [d_X5_settle, b_X5_settle_0, b_X5_settle_8, b_X5_settle_11, b_X5_settle_13, b_X5_settle_20, b_X5_settle_23, b_X5_settle_26, b_X5_settle_37, b_X5_settle_44, b_X5_settle_55, b_X5_settle_61, b_X5_settle_72, s_isThere, am_C_v, am_C_0, am_ue, if_true, if_false, eq_self, am_10, ite_not, Nat.reduceEqDiff, reduceIte, am_bI_f h1]
    · simp only [d_X6_settle, b_X6_settle_0, b_X6_settle_5, b_X6_settle_8, b_X6_settle_10, b_X6_settle_17, b_X6_settle_20, b_X6_settle_23, b_X6_settle_27, b_X6_settle_37, b_X6_settle_42, b_X6_settle_49, b_X6_settle_54, s_misThere, am_C_v, am_C_0, am_ue, if_true, if_false, eq_self, am_10, ite_not, Nat.reduceEqDiff, reduceIte, am_bI_f h2]
