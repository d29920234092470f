/-! again: when all is as it was. -/
theorem am_up_self {α : Type} (f : Nat → α) (k : Nat) : am_up f k (f k) = f := by
  funext j
  rw [am_ue]
  by_cases h : j = k
  · rw [if_pos h, h]
  · rw [if_neg h]
/-- creeds as a number, as the class has it -/
def aw_ce (d : Nat → Nat) : Nat → Nat
  | 0 => 0
  | j + 1 => aw_ce d j * 3 + d j
theorem aw_ce_lt {d : Nat → Nat} (hd : ∀ k, k < 7 → d k < 3) : ∀ {j : Nat}, j ≤ 7 → aw_ce d j < 3 ^ j
  | 0, _ => (show (0 : Nat) < 1 by omega)
  | j + 1, h => by
    have ih := aw_ce_lt hd (j := j) (by omega)
    have := hd j (by omega)
    rw [aw_ce, Nat.pow_succ]
    omega
theorem aw_ce_lt7 {d : Nat → Nat} (hd : ∀ k, k < 7 → d k < 3) : aw_ce d 7 < 2187 := aw_ce_lt hd (Nat.le_refl _)
theorem aw_ce_inj {d d' : Nat → Nat} (hd : ∀ k, k < 7 → d k < 3) (hd' : ∀ k, k < 7 → d' k < 3) : ∀ {j : Nat}, j ≤ 7 → aw_ce d j = aw_ce d' j → ∀ k, k < j → d k = d' k
  | 0, _, _, k, hk => absurd hk (Nat.not_lt_zero k)
  | j + 1, h, e, k, hk => by
    have h1 := hd j (by omega)
    have h2 := hd' j (by omega)
    rw [aw_ce, aw_ce] at e
    by_cases g : k = j
    · subst g; omega
    · exact aw_ce_inj hd hd' (j := j) (by omega) (by omega) k (by omega)
theorem aw_ce_cong {d d' : Nat → Nat} : ∀ {j : Nat}, j ≤ 7 → (∀ k, k < 7 → d k = d' k) → aw_ce d j = aw_ce d' j
  | 0, _, _ => rfl
  | j + 1, h, e => by rw [aw_ce, aw_ce, aw_ce_cong (by omega) e, e j (by omega)]
theorem aw_cd_inj {d d' : Nat → Nat} (hd : ∀ k, k < 7 → d k < 3) (hd' : ∀ k, k < 7 → d' k < 3) : ∀ {j : Nat}, j ≤ 7 → aw_cd d j = aw_cd d' j → ∀ k, k < 7 → 7 - j ≤ k → d k = d' k
  | 0, _, _, k, hk, h2 => by omega
  | j + 1, h, e, k, hk, h2 => by
    have h3 := hd (6 - j) (by omega)
    have h4 := hd' (6 - j) (by omega)
    rw [aw_cd, aw_cd] at e
    by_cases g : k = 6 - j
    · subst g; omega
    · exact aw_cd_inj hd hd' (j := j) (by omega) (by omega) k hk (by omega)
theorem s_heldAsNumber (X : AMx) (R : Nat → Nat → Int32) (Z : Nat → Int32) (A : Nat → Nat → Int32) (Y : Nat → Int32) {d : Nat → Nat} (hd : ∀ k, k < 7 → R 37 k = nI (d k) ∧ d k < 3) : am_D X 20 [.ref 43] (am_WH R Z A Y) = some (some (.int (nI (aw_ce d 7))), am_WH R Z A Y) := by
  rw [d_X2_heldAsNumber, b_X2_heldAsNumber_0]
  refine am_loop (E := fun j => am_E X AM_X2_heldAsNumber 4 [some (.ref 43), some (.int (nI (aw_ce d j))), some (.int (nI j))] [] (am_WH R Z A Y)) 7 ?_ ?_
  · try dsimp only
    rw [b_X2_heldAsNumber_4, if_pos (show (7 : Int32) ≤ nI 7 from Int32.le_refl _), b_X2_heldAsNumber_29]
  · intro k hk
    try dsimp only
    rw [b_X2_heldAsNumber_4, if_neg (show ¬ (7 : Int32) ≤ nI k from nI_ge (a := k) (b := 7) (by omega) (by omega)), b_X2_heldAsNumber_10, d_X1_get_44, am_rg_nI hk (by omega), am_C_v, b_X2_heldAsNumber_21, (hd k hk).1, nI_1, show (3 : Int32) = nI 3 from rfl, pk_mul, nI_add]
    rfl
/-- the class: the first year that was before, and which it was -/
theorem s_findAgain (X : AMx) (R : Nat → Nat → Int32) (Z : Nat → Int32) (A : Nat → Nat → Int32) (Y : Nat → Int32) (hr : ∀ k, k < 7 → am_rn (R 1 k) 0 2) {d : Nat → Nat → Nat} (ed : d = aw_it (Z 1) (R 3) (fun k => (R 1 k).toNatClampNeg)) {N M : Nat} (hN : N ≤ 2187) (hM : M < N) (e1 : aw_ce (d M) 7 = aw_ce (d N) 7) (e2 : ∀ y, y < N → ∀ m, m < y → aw_ce (d m) 7 ≠ aw_ce (d y) 7) : ∃ R', (∀ j, j < 37 → R' j = R j) ∧ am_D X 19 [.ref 43, .ref 1] (am_WH R Z A Y) = some (none, am_WH R' (am_up (am_up Z 35 (nI N)) 36 (nI M)) A Y) := by
  have hd0 : ∀ k, k < 7 → R 1 k = nI (R 1 k).toNatClampNeg ∧ (R 1 k).toNatClampNeg < 3 := fun k hk => aw_tn (hr k hk) (by omega) (by omega)
  have hlt : ∀ n k, k < 7 → d n k < 3 := fun n k hk => by rw [ed]; exact aw_it_lt (hd0 k hk).2 n
  have hcl : ∀ n, aw_ce (d n) 7 < 2187 := fun n => aw_ce_lt7 (hlt n)
  have eM : ∀ m, m < M → aw_ce (d m) 7 ≠ aw_ce (d N) 7 := fun m hm z => e2 M hM m hm (z.trans e1.symm)
  have loop : ∀ (m y : Nat) (R' : Nat → Nat → Int32) (y3 y4 : Option Value), y + m = N → (∀ j, j < 37 → R' j = R j) → (∀ k, k < 7 → R' 37 k = nI (d y k) ∧ d y k < 3) → (∀ j, j < y → R' 39 j = nI (aw_ce (d j) 7)) → ∃ R'', (∀ j, j < 37 → R'' j = R j) ∧ am_E X AM_X2_findAgain 7 [some (.ref 43), some (.ref 1), some (.int (nI y)), y3, y4] [] (am_WH R' Z A Y) = some (none, am_WH R'' (am_up (am_up Z 35 (nI N)) 36 (nI M)) A Y) := by
    intro m
    induction m with
    | zero =>
      intro y R' y3 y4 hy hR hd hh
      obtain rfl : y = N := by omega
      refine ⟨R', hR, ?_⟩
      rw [b_X2_findAgain_7, if_neg (show ¬ (2187 : Int32) < nI y from nI_nlt (a := 2187) (b := y) (by omega) (by omega)), b_X2_findAgain_14, s_heldAsNumber X R' Z A Y hd, am_C_v, b_X2_findAgain_18]
      refine am_loop (E := fun k => am_E X AM_X2_findAgain 22 [some (.ref 43), some (.ref 1), some (.int (nI y)), some (.int (nI (aw_ce (d y) 7))), some (.int (nI k))] [] (am_WH R' Z A Y)) M ?_ ?_
      · try dsimp only
        rw [b_X2_findAgain_22, if_neg (nI_ge hM (by omega)), b_X2_findAgain_28, d_X1_get_48, am_rg_nI (by omega) (by omega), am_C_v, b_X2_findAgain_37, hh M hM, if_pos (by rw [e1]), b_X2_findAgain_41]
      · intro k hk
        try dsimp only
        have c1 := hcl k
        have c2 := hcl y
        rw [b_X2_findAgain_22, if_neg (nI_ge (by omega) (by omega)), b_X2_findAgain_28, d_X1_get_48, am_rg_nI (by omega) (by omega), am_C_v, b_X2_findAgain_37, hh k (by omega), if_neg (fun z => eM k hk ((nI_eq (by omega) (by omega)).mp z)), b_X2_findAgain_53, nI_1]
    | succ m ih =>
      intro y R' y3 y4 hy hR hd hh
      have hin : ∀ _ : Unit, am_E X AM_X2_findAgain 22 [some (.ref 43), some (.ref 1), some (.int (nI y)), some (.int (nI (aw_ce (d y) 7))), some (.int 0)] [] (am_WH R' Z A Y) = am_E X AM_X2_findAgain 59 [some (.ref 43), some (.ref 1), some (.int (nI y)), some (.int (nI (aw_ce (d y) 7))), some (.int (nI y))] [] (am_WH R' Z A Y) := by
        intro _
        refine am_loop (E := fun k => am_E X AM_X2_findAgain 22 [some (.ref 43), some (.ref 1), some (.int (nI y)), some (.int (nI (aw_ce (d y) 7))), some (.int (nI k))] [] (am_WH R' Z A Y)) y ?_ ?_
        · try dsimp only
          rw [b_X2_findAgain_22, if_pos (Int32.le_refl _)]
        · intro k hk
          try dsimp only
          have c1 := hcl k
          have c2 := hcl y
          rw [b_X2_findAgain_22, if_neg (nI_ge (by omega) (by omega)), b_X2_findAgain_28, d_X1_get_48, am_rg_nI (by omega) (by omega), am_C_v, b_X2_findAgain_37, hh k hk, if_neg (fun z => e2 y (by omega) k hk ((nI_eq (by omega) (by omega)).mp z)), b_X2_findAgain_53, nI_1]
      rw [b_X2_findAgain_7, if_neg (show ¬ (2187 : Int32) < nI y from nI_nlt (a := 2187) (b := y) (by omega) (by omega)), b_X2_findAgain_14, s_heldAsNumber X R' Z A Y hd, am_C_v, b_X2_findAgain_18, hin (), b_X2_findAgain_59, d_X1_set_48, am_rs_nI (by omega) (by omega), am_C_0, b_X2_findAgain_68]
      obtain ⟨R2, hR2, hd2, e2'⟩ := s_passYear X (am_up R' 39 (upd (R' 39) y (nI (aw_ce (d y) 7)))) Z A Y (d := d y) hd
      rw [e2', am_C_0, b_X2_findAgain_73, nI_1]
      have e3 : am_up R' 39 (upd (R' 39) y (nI (aw_ce (d y) 7))) 3 = R 3 := hR 3 (by omega)
      rw [e3] at hd2
      refine ih (y + 1) R2 _ _ (by omega) (fun j hj => (hR2 j (by omega) (by omega)).trans ((am_up_n _ _ (by omega)).trans (hR j hj))) (fun k hk => ?_) (fun j hj => ?_)
      · have q := hd2 k hk
        rw [ed]
        rw [ed] at q
        exact q
      · rw [hR2 39 (by omega) (by omega), am_up_s]
        by_cases e : j = y
        · subst e; exact upd_s _ _ _
        · rw [upd_n _ _ e]; exact hh j (by omega)
  rw [d_X2_findAgain, b_X2_findAgain_0, s_start, am_C_0, b_X2_findAgain_5]
  refine loop N 0 _ _ _ (by omega) (fun j hj => am_up_n _ _ (by omega)) (fun k hk => ?_) (fun j hj => absurd hj (Nat.not_lt_zero j))
  rw [am_up_s]
  unfold am_rc
  rw [if_pos hk, ed]
  exact hd0 k hk
/-- the reference -/
theorem l_magain0 (X : AMx) (R : Nat → Nat → Int32) (Z : Nat → Int32) (A : Nat → Nat → Int32) (Y : Nat → Int32) (l1 : Int32) : ∀ m k g, k + m = 2187 → (∀ j, j < k → g j = 0) → ∃ g', (∀ j, j < 2187 → g' j = 0) ∧ am_E X AM_X6_again 14 [some (.ref 88), some (.int l1), some (.int (nI k)), none] [] (am_WH R Z (am_up A 11 g) Y) = am_E X AM_X6_again 34 [some (.ref 88), some (.int l1), some (.int (nI 2187)), none] [] (am_WH R Z (am_up A 11 g') Y) := by
  intro m
  induction m with
  | zero =>
    intro k g hk hg
    obtain rfl : k = 2187 := by omega
    rw [b_X6_again_14, if_pos (show (2187 : Int32) ≤ nI 2187 by decide)]
    exact ⟨g, hg, rfl⟩
  | succ m ih =>
    intro k g hk hg
    rw [b_X6_again_14, if_neg (show ¬ (2187 : Int32) ≤ nI k from nI_ge (a := k) (b := 2187) (by omega) (by omega)), b_X6_again_21, if_pos (am_in_nI (by omega) (by omega)), am_cl (by omega), am_up_s, am_uu, b_X6_again_28, nI_1]
    refine ih (k + 1) (upd g k 0) (by omega) (fun j hj => ?_)
    by_cases e : j = k
    · subst e; exact upd_s _ _ _
    · rw [upd_n _ _ e]; exact hg j (by omega)
theorem l_magain (X : AMx) (R : Nat → Nat → Int32) (Z : Nat → Int32) (A : Nat → Nat → Int32) (Y : Nat → Int32) (l1 : Int32) {d : Nat → Nat → Nat} (hlt : ∀ n k, k < 7 → d n k < 3) (hs : ∀ n, d (n + 1) = aw_y (Y 0) (A 3) (d n)) {N M : Nat} (hN : N ≤ 2187) (hM : M < N) (e1 : aw_cd (d M) 7 = aw_cd (d N) 7) (e2 : ∀ y, y < N → ∀ m, m < y → aw_cd (d m) 7 ≠ aw_cd (d y) 7) : ∀ m n g, n + m = N → (∀ j, j < n → g (aw_cd (d j) 7) = nI (j + 1)) → (∀ x, x < 2187 → (∀ j, j < n → aw_cd (d j) 7 ≠ x) → g x = 0) → ∃ g', am_E X AM_X6_again 41 [some (.ref 88), some (.int l1), some (.int (nI (aw_cd (d n) 7))), some (.int (nI n))] [] (am_WH R Z (am_up A 11 g) Y) = some (some (.int (if l1 = 0 then nI N else nI (N - M))), am_WH R Z (am_up A 11 g') Y) := by
  have hcl : ∀ n, aw_cd (d n) 7 < 2187 := fun n => aw_cd_lt7 (hlt n)
  intro m
  induction m with
  | zero =>
    intro n g hn h1 h2
    obtain rfl : n = N := by omega
    have c := hcl n
    have hg : g (aw_cd (d n) 7) = nI (M + 1) := by rw [← e1]; exact h1 M hM
    refine ⟨g, ?_⟩
    rw [b_X6_again_41, if_pos (am_in_nI c (by omega)), am_cl (by omega), am_up_s, b_X6_again_47, hg, if_neg (nI_ne0 (by omega) (by omega)), b_X6_again_71]
    by_cases g0 : l1 = 0
    · rw [if_pos g0, if_pos g0, b_X6_again_75]
    · rw [if_neg g0, if_neg g0, b_X6_again_79, if_pos (am_in_nI c (by omega)), am_cl (by omega), am_up_s, b_X6_again_88, hg, nI_1, pk_sub (by omega), show n + 1 - (M + 1) = n - M by omega]
  | succ m ih =>
    intro n g hn h1 h2
    have c := hcl n
    have hg : g (aw_cd (d n) 7) = 0 := h2 _ c (fun j hj => e2 n (by omega) j hj)
    rw [b_X6_again_41, if_pos (am_in_nI c (by omega)), am_cl (by omega), am_up_s, b_X6_again_47, hg, if_pos rfl, b_X6_again_50, if_pos (am_in_nI c (by omega)), am_cl (by omega), am_up_s, am_uu, b_X6_again_59, s_yearOn X R Z _ Y (hlt n), am_C_v, b_X6_again_64, nI_1]
    rw [show aw_y (Y 0) (am_up A 11 (upd g (aw_cd (d n) 7) (nI (n + 1))) 3) (d n) = d (n + 1) from (hs n).symm]
    refine ih (n + 1) _ (by omega) (fun j hj => ?_) (fun x hx hx2 => ?_)
    · by_cases e : j = n
      · subst e; exact upd_s _ _ _
      · rw [upd_n _ _ (e2 n (by omega) j (by omega))]; exact h1 j (by omega)
    · rw [upd_n _ _ (fun z => hx2 n (by omega) z.symm)]
      exact h2 x hx (fun j hj => hx2 j (by omega))
theorem op_again (X : AMx) (b : Int32) : am_OP X 73 145 [.int b] := by
  intro R Z A Y hI
  have v1 : Z 1 = Y 0 ∧ am_rn (Z 1) 0 127 := hI.1 1
  have v8 : ∀ i, i < 7 → R 1 i = A 0 i ∧ am_rn (R 1 i) 0 2 := hI.1 8
  have v10 : ∀ i, i < 7 → R 3 i = A 3 i ∧ am_rn (R 3 i) 0 127 := hI.1 10
  by_cases h1 : 0 ≤ b ∧ b ≤ 1
  · have hd0 : ∀ k, k < 7 → R 1 k = nI (R 1 k).toNatClampNeg ∧ (R 1 k).toNatClampNeg < 3 := fun k hk => aw_tn (v8 k hk).2 (by omega) (by omega)
    have hdC : ∀ n k, k < 7 → aw_it (Z 1) (R 3) (fun k => (R 1 k).toNatClampNeg) n k < 3 := fun n k hk => aw_it_lt (hd0 k hk).2 n
    have hdR0 : ∀ k, k < 7 → aw_d0 (Y 0) (A 0) k < 3 := fun k hk => by
      unfold aw_d0
      split
      · rw [← (v8 k hk).1]; exact (hd0 k hk).2
      · omega
    have hdR : ∀ n k, k < 7 → aw_it (Y 0) (A 3) (aw_d0 (Y 0) (A 0)) n k < 3 := fun n k hk => aw_it_lt (hdR0 k hk) n
    have ekn : ∀ d k, k < 7 → aw_y (Z 1) (R 3) d k = aw_y (Y 0) (A 3) d k := fun d k hk => by
      unfold aw_y aw_set; rw [v1.1, (v10 k hk).1]
    have e1 : ∀ n k, k < 7 → aw_it (Z 1) (R 3) (fun k => (R 1 k).toNatClampNeg) n k = aw_it (Y 0) (A 3) (fun k => (R 1 k).toNatClampNeg) n k := by
      intro n
      induction n with
      | zero => intro k _; rfl
      | succ n ih =>
        intro k hk
        show aw_y _ _ (aw_it _ _ _ n) k = aw_y _ _ (aw_it _ _ _ n) k
        rw [ekn _ k hk]
        unfold aw_y
        rw [ih k hk]
        congr 1
        funext c
        exact aw_hc_cong (fun x hx _ => ih x hx)
    -- of who is there the same; of the others nothing changes
    have eT : ∀ n k, k < 7 → bt (Y 0) k = true → aw_it (Z 1) (R 3) (fun k => (R 1 k).toNatClampNeg) n k = aw_it (Y 0) (A 3) (aw_d0 (Y 0) (A 0)) n k := by
      intro n k hk hb
      rw [e1 n k hk]
      refine aw_it_cong (fun x hx hb => ?_) n k hk hb
      show (R 1 x).toNatClampNeg = aw_d0 (Y 0) (A 0) x
      unfold aw_d0
      rw [if_pos hb, (v8 x hx).1]
    have both : ∀ i j, (aw_ce (aw_it (Z 1) (R 3) (fun k => (R 1 k).toNatClampNeg) i) 7 = aw_ce (aw_it (Z 1) (R 3) (fun k => (R 1 k).toNatClampNeg) j) 7) ↔ (aw_cd (aw_it (Y 0) (A 3) (aw_d0 (Y 0) (A 0)) i) 7 = aw_cd (aw_it (Y 0) (A 3) (aw_d0 (Y 0) (A 0)) j) 7) := by
      intro i j
      constructor
      · intro z
        have z' := aw_ce_inj (hdC i) (hdC j) (Nat.le_refl 7) z
        refine aw_cd_cong (Nat.le_refl _) (fun k hk => ?_)
        by_cases hb : bt (Y 0) k = true
        · rw [← eT i k hk hb, ← eT j k hk hb]; exact z' k hk
        · rw [aw_it_no hb, aw_it_no hb]
      · intro z
        have z' := aw_cd_inj (hdR i) (hdR j) (Nat.le_refl 7) z
        refine aw_ce_cong (Nat.le_refl _) (fun k hk => ?_)
        by_cases hb : bt (Y 0) k = true
        · rw [eT i k hk hb, eT j k hk hb]; exact z' k hk (by omega)
        · rw [aw_it_no (by rw [v1.1]; exact hb), aw_it_no (by rw [v1.1]; exact hb)]
    obtain ⟨i0, j0, hij, hj0, eij⟩ := fb_twice (m := 2187) (n := 2188) (f := fun n => aw_cd (aw_it (Y 0) (A 3) (aw_d0 (Y 0) (A 0)) n) 7) (fun i _ => aw_cd_lt7 (hdR i)) (by omega)
    obtain ⟨N, ⟨M, hM, eMN⟩, hmin⟩ := pk_least (fun n => ∃ m, m < n ∧ aw_cd (aw_it (Y 0) (A 3) (aw_d0 (Y 0) (A 0)) m) 7 = aw_cd (aw_it (Y 0) (A 3) (aw_d0 (Y 0) (A 0)) n) 7) ⟨j0, i0, hij, eij⟩
    have hN : N ≤ 2187 := by
      false_or_by_contra
      rename_i q
      exact hmin j0 (by omega) ⟨i0, hij, eij⟩
    have hmin' : ∀ y, y < N → ∀ m, m < y → aw_cd (aw_it (Y 0) (A 3) (aw_d0 (Y 0) (A 0)) m) 7 ≠ aw_cd (aw_it (Y 0) (A 3) (aw_d0 (Y 0) (A 0)) y) 7 := fun y hy m hm z => hmin y hy ⟨m, hm, z⟩
    obtain ⟨R', hR', eC⟩ := s_findAgain X R Z A Y (fun k hk => (v8 k hk).2) rfl hN hM ((both M N).mpr eMN) (fun y hy m hm z => hmin' y hy m hm ((both m y).mp z))
    obtain ⟨g1, hg1, eZ⟩ := l_magain0 X R' (am_up (am_up Z 35 (nI N)) 36 (nI M)) A Y b 2187 0 (A 11) (by omega) (fun j hj => absurd hj (Nat.not_lt_zero j))
    obtain ⟨g2, eR⟩ := l_magain X R' (am_up (am_up Z 35 (nI N)) 36 (nI M)) A Y b hdR (fun n => rfl) hN hM eMN hmin' N 0 g1 (by omega) (fun j hj => absurd hj (Nat.not_lt_zero j)) (fun x hx _ => hg1 x hx)
    have eA : am_up A 11 (A 11) = A := am_up_self A 11
    rw [eA] at eZ
    refine ⟨.int (if b = 0 then nI N else nI (N - M)), R', am_up (am_up Z 35 (nI N)) 36 (nI M), am_up A 11 g2, Y, ?_, ?_, am_INV_congr (fun j hj => hR' j (by omega)) (fun j hj => by rw [am_up_n _ _ (by omega), am_up_n _ _ (by omega)]) (fun j h1 h2 h3 h4 => am_up_n _ _ h4) (fun _ _ => rfl) hI⟩
    · rw [d_X5_again, b_X5_again_0, s_isIn, am_C_v, am_bI_t h1, b_X5_again_6, if_neg (by decide), b_X5_again_12, eC, am_C_0, b_X5_again_23]
      by_cases hb : b = 0
      · rw [if_pos hb, if_pos hb, b_X5_again_27]
        rfl
      · rw [if_neg hb, if_neg hb, b_X5_again_37, show am_up (am_up Z 35 (nI N)) 36 (nI M) 35 - am_up (am_up Z 35 (nI N)) 36 (nI M) 36 = nI N - nI M from rfl, pk_sub (by omega)]
    · rw [d_X6_again, b_X6_again_0, s_in, am_C_v, am_bI_t h1, b_X6_again_6, if_neg (by decide), b_X6_again_12]
      refine eZ.trans ?_
      rw [b_X6_again_34, s_creedsNow X R' _ (am_up A 11 g1) Y (fun k hk => by show am_rn (A 0 k) 0 2; rw [← (v8 k hk).1]; exact (v8 k hk).2), am_C_v, b_X6_again_38]
      exact eR
  · refine ⟨.int (-2), R, Z, A, Y, ?_, ?_, hI⟩
    · rw [d_X5_again, b_X5_again_0, s_isIn, am_C_v, am_bI_f h1, b_X5_again_6, if_pos rfl, b_X5_again_9]
    · rw [d_X6_again, b_X6_again_0, s_in, am_C_v, am_bI_f h1, b_X6_again_6, if_pos rfl, b_X6_again_9]
