/-! again: when all is as it was. -/
theorem am_up_self {α : Type} (f : Nat → α) (k : Nat) : am_up f k (f k) = f := by
  funext j
  rw [am_ue]
  by_cases h : j = k
  · rw [if_pos h, h]
  · rw [if_neg h]
/-- creeds as a number, as the class has it -/
def aw_ce (d : Nat → Nat) : Nat → Nat
  | 0 => 0
  | j + 1 => aw_ce d j * 3 + d j
theorem aw_ce_lt {d : Nat → Nat} (hd : ∀ k, k < 7 → d k < 3) : ∀ {j : Nat}, j ≤ 7 → aw_ce d j < 3 ^ j
  | 0, _ => (show (0 : Nat) < 1 by omega)
  | j + 1, h => by
    have ih := aw_ce_lt hd (j := j) (by omega)
    have := hd j (by omega)
    rw [aw_ce, Nat.pow_succ]
    omega
theorem aw_ce_lt7 {d : Nat → Nat} (hd : ∀ k, k < 7 → d k < 3) : aw_ce d 7 < 2187 := aw_ce_lt hd (Nat.le_refl _)
theorem aw_ce_inj {d d' : Nat → Nat} (hd : ∀ k, k < 7 → d k < 3) (hd' : ∀ k, k < 7 → d' k < 3) : ∀ {j : Nat}, j ≤ 7 → aw_ce d j = aw_ce d' j → ∀ k, k < j → d k = d' k
  | 0, _, _, k, hk => absurd hk (Nat.not_lt_zero k)
  | j + 1, h, e, k, hk => by
    have h1 := hd j (by omega)
    have h2 := hd' j (by omega)
    rw [aw_ce, aw_ce] at e
    by_cases g : k = j
    · subst g; omega
    · exact aw_ce_inj hd hd' (j := j) (by omega) (by omega) k (by omega)
theorem aw_ce_cong {d d' : Nat → Nat} : ∀ {j : Nat}, j ≤ 7 → (∀ k, k < 7 → d k = d' k) → aw_ce d j = aw_ce d' j
  | 0, _, _ => rfl
  | j + 1, h, e => by rw [aw_ce, aw_ce, aw_ce_cong (by omega) e, e j (by omega)]
theorem aw_cd_inj {d d' : Nat → Nat} (hd : ∀ k, k < 7 → d k < 3) (hd' : ∀ k, k < 7 → d' k < 3) : ∀ {j : Nat}, j ≤ 7 → aw_cd d j = aw_cd d' j → ∀ k, k < 7 → 7 - j ≤ k → d k = d' k
  | 0, _, _, k, hk, h2 => by omega
  | j + 1, h, e, k, hk, h2 => by
    have h3 := hd (6 - j) (by omega)
    have h4 := hd' (6 - j) (by omega)
    rw [aw_cd, aw_cd] at e
    by_cases g : k = 6 - j
    · subst g; omega
    · exact aw_cd_inj hd hd' (j := j) (by omega) (by omega) k hk (by omega)
theorem s_heldAsNumber (X : AMx) (R : Nat → Nat → Int32) (Z : Nat → Int32) (A : Nat → Nat → Int32) (Y : Nat → Int32) {d : Nat → Nat} (hd : ∀ k, k < 7 → R 37 k = nI (d k) ∧ d k < 3) : am_D X 22 [.ref 43] (am_WH R Z A Y) = some (some (.int (nI (aw_ce d 7))), am_WH R Z A Y) := by
  rw [d_X2_heldAsNumber, b_X2_heldAsNumber_0]
  refine am_loop (E := fun j => am_E X AM_X2_heldAsNumber 4 [some (.ref 43), some (.int (nI (aw_ce d j))), some (.int (nI j))] [] (am_WH R Z A Y)) 7 ?_ ?_
  · try dsimp only
    rw [b_X2_heldAsNumber_4, if_pos (show (7 : Int32) ≤ nI 7 from Int32.le_refl _), b_X2_heldAsNumber_29]
  · intro k hk
    try dsimp only
    rw [b_X2_heldAsNumber_4, if_neg (show ¬ (7 : Int32) ≤ nI k from nI_ge (a := k) (b := 7) (by omega) (by omega)), b_X2_heldAsNumber_10, d_X1_get_44, am_rg_nI hk (by omega), am_C_v, b_X2_heldAsNumber_21, (hd k hk).1, nI_1, show (3 : Int32) = nI 3 from rfl, pk_mul, nI_add]
    rfl
/-- who agree today agree in all years -/
theorem aw_y_ag {th : Int32} {kn : Nat → Int32} {d d' : Nat → Nat} (h : ∀ k, k < 7 → d k = d' k) : ∀ k, k < 7 → aw_y th kn d k = aw_y th kn d' k := fun k hk => by
  unfold aw_y
  rw [h k hk]
  congr 1
  funext c
  exact aw_hc_cong (fun x hx _ => h x hx)
theorem aw_it_ag {th : Int32} {kn : Nat → Int32} {d : Nat → Nat} {m n : Nat} (h : ∀ k, k < 7 → aw_it th kn d m k = aw_it th kn d n k) : ∀ t k, k < 7 → aw_it th kn d (m + t) k = aw_it th kn d (n + t) k := by
  intro t
  induction t with
  | zero => exact h
  | succ t ih => exact aw_y_ag ih
/-- the class: all as none -/
theorem s_clear (X : AMx) (R : Nat → Nat → Int32) (Z : Nat → Int32) (A : Nat → Nat → Int32) (Y : Nat → Int32) : ∃ R', (∀ j, j ≠ 39 → R' j = R j) ∧ (∀ k, k < 69 → R' 39 k = 0) ∧ am_D X 14 [.ref 48] (am_WH R Z A Y) = some (none, am_WH R' Z A Y) := by
  have loop : ∀ m n g, n + m = 69 → (∀ k, k < n → g k = 0) → ∃ R', (∀ j, j ≠ 39 → R' j = R j) ∧ (∀ k, k < 69 → R' 39 k = 0) ∧ am_E X AM_X1_clear 2 [some (.ref 48), some (.int (nI n))] [] (am_WH (am_up R 39 g) Z A Y) = some (none, am_WH R' Z A Y) := by
    intro m
    induction m with
    | zero =>
      intro n g hn hg
      obtain rfl : n = 69 := by omega
      refine ⟨am_up R 39 g, fun j h => am_up_n _ _ h, fun k hk => by rw [am_up_s]; exact hg k hk, ?_⟩
      rw [b_X1_clear_2, if_pos (show (69 : Int32) ≤ nI 69 from Int32.le_refl _), b_X1_clear_24]
    | succ m ih =>
      intro n g hn hg
      rw [b_X1_clear_2, if_neg (show ¬ (69 : Int32) ≤ nI n from nI_ge (a := n) (b := 69) (by omega) (by omega)), b_X1_clear_11, if_pos (am_in_nI (by omega) (by omega)), am_cl (by omega), am_up_s, am_uu, b_X1_clear_18, nI_1]
      refine ih (n + 1) _ (by omega) (fun k hk => ?_)
      by_cases e : k = n
      · subst e; exact upd_s _ _ _
      · rw [upd_n _ _ e]; exact hg k (by omega)
  have k := loop 69 0 (R 39) (by omega) (fun k hk => absurd hk (Nat.not_lt_zero k))
  rw [am_up_self] at k
  rw [d_X1_clear, b_X1_clear_0]
  exact k
/-- the years from a state until it comes again -/
theorem s_yearsRound (X : AMx) (R : Nat → Nat → Int32) (Z : Nat → Int32) (A : Nat → Nat → Int32) (Y : Nat → Int32) {d : Nat → Nat → Nat} (hs : ∀ n, d (n + 1) = aw_y (Z 1) (R 3) (d n)) {N T c : Nat} (hc : c < 2187) (hlt : ∀ n k, k < 7 → d n k < 3) (h1 : 0 < T) (hT : T ≤ 2187) (eT : aw_ce (d (N + T)) 7 = c) (e2 : ∀ t, 0 < t → t < T → aw_ce (d (N + t)) 7 ≠ c) (hd : ∀ k, k < 7 → R 37 k = nI (d N k) ∧ d N k < 3) : ∃ R', (∀ j, j < 37 → R' j = R j) ∧ am_D X 21 [.ref 43, .int (nI c), .ref 1] (am_WH R Z A Y) = some (some (.int (nI T)), am_WH R' Z A Y) := by
  have loop : ∀ (m u : Nat) (R' : Nat → Nat → Int32), u + 1 + m = T → (∀ j, j < 37 → R' j = R j) → (∀ k, k < 7 → R' 37 k = nI (d (N + u) k) ∧ d (N + u) k < 3) → ∃ R'', (∀ j, j < 37 → R'' j = R j) ∧ am_E X AM_X2_yearsRound 2 [some (.ref 43), some (.int (nI c)), some (.ref 1), some (.int (nI (u + 1)))] [] (am_WH R' Z A Y) = some (some (.int (nI T)), am_WH R'' Z A Y) := by
    intro m
    induction m with
    | zero =>
      intro u R' hu hR hd'
      obtain rfl : u + 1 = T := by omega
      obtain ⟨R2, hR2, hd2, e2'⟩ := s_passYear X R' Z A Y (d := d (N + u)) hd'
      rw [hR 3 (by omega), ← hs (N + u)] at hd2
      refine ⟨R2, fun j hj => (hR2 j (by omega) (by omega)).trans (hR j hj), ?_⟩
      rw [b_X2_yearsRound_2, if_neg (show ¬ (2187 : Int32) < nI (u + 1) from nI_nlt (a := 2187) (b := u + 1) (by omega) (by omega)), b_X2_yearsRound_9, e2', am_C_0, b_X2_yearsRound_14, s_heldAsNumber X R2 Z A Y (d := d (N + u + 1)) hd2, am_C_v, b_X2_yearsRound_18, if_pos (show nI (aw_ce (d (N + u + 1)) 7) = nI c from congrArg nI eT), b_X2_yearsRound_22]
    | succ m ih =>
      intro u R' hu hR hd'
      obtain ⟨R2, hR2, hd2, e2'⟩ := s_passYear X R' Z A Y (d := d (N + u)) hd'
      rw [hR 3 (by omega), ← hs (N + u)] at hd2
      have c1 := aw_ce_lt7 (hlt (N + u + 1))
      have hne : ¬ nI (aw_ce (d (N + u + 1)) 7) = nI c := fun z => e2 (u + 1) (by omega) (by omega) ((nI_eq (a := aw_ce (d (N + u + 1)) 7) (by omega) (by omega)).mp z)
      rw [b_X2_yearsRound_2, if_neg (show ¬ (2187 : Int32) < nI (u + 1) from nI_nlt (a := 2187) (b := u + 1) (by omega) (by omega)), b_X2_yearsRound_9, e2', am_C_0, b_X2_yearsRound_14, s_heldAsNumber X R2 Z A Y (d := d (N + u + 1)) hd2, am_C_v, b_X2_yearsRound_18, if_neg hne, b_X2_yearsRound_24, nI_1]
      exact ih (u + 1) R2 (by omega) (fun j hj => (hR2 j (by omega) (by omega)).trans (hR j hj)) hd2
  rw [d_X2_yearsRound, b_X2_yearsRound_0]
  exact loop (T - 1) 0 R (by omega) (fun _ _ => rfl) hd
/-- the class: the first year that was before, and how long before -/
theorem s_findAgain (X : AMx) (R : Nat → Nat → Int32) (Z : Nat → Int32) (A : Nat → Nat → Int32) (Y : Nat → Int32) (hr : ∀ k, k < 7 → am_rn (R 1 k) 0 2) {d : Nat → Nat → Nat} (ed : d = aw_it (Z 1) (R 3) (fun k => (R 1 k).toNatClampNeg)) {N M : Nat} (hN : N ≤ 2187) (hM : M < N) (e1 : aw_ce (d M) 7 = aw_ce (d N) 7) (e2 : ∀ y, y < N → ∀ m, m < y → aw_ce (d m) 7 ≠ aw_ce (d y) 7) : ∃ R', (∀ j, j < 37 → R' j = R j) ∧ am_D X 20 [.ref 43, .ref 1] (am_WH R Z A Y) = some (none, am_WH R' (am_up (am_up Z 35 (nI N)) 36 (nI (N - M))) A Y) := by
  have hd0 : ∀ k, k < 7 → R 1 k = nI (R 1 k).toNatClampNeg ∧ (R 1 k).toNatClampNeg < 3 := fun k hk => aw_tn (hr k hk) (by omega) (by omega)
  have hlt : ∀ n k, k < 7 → d n k < 3 := fun n k hk => by rw [ed]; exact aw_it_lt (hd0 k hk).2 n
  have hcl : ∀ n, aw_ce (d n) 7 < 2187 := fun n => aw_ce_lt7 (hlt n)
  have hst : ∀ n, d (n + 1) = aw_y (Z 1) (R 3) (d n) := fun n => by rw [ed]; rfl
  have ag : ∀ t, aw_ce (d (N + t)) 7 = aw_ce (d (M + t)) 7 := fun t => by
    have q := aw_ce_inj (hlt M) (hlt N) (Nat.le_refl 7) e1
    refine aw_ce_cong (Nat.le_refl 7) (fun k hk => ?_)
    rw [ed] at q ⊢
    exact (aw_it_ag (fun k hk => q k hk) t k hk).symm
  have loop : ∀ (m y : Nat) (R' : Nat → Nat → Int32) (y3 : Option Value), y + m = N → (∀ j, j < 37 → R' j = R j) → (∀ k, k < 7 → R' 37 k = nI (d y k) ∧ d y k < 3) → (∀ x, x < 2187 → (bt (R' 39 (x / 32)) (x % 32) = true ↔ ∃ j, j < y ∧ aw_ce (d j) 7 = x)) → ∃ R'', (∀ j, j < 37 → R'' j = R j) ∧ am_E X AM_X2_findAgain 14 [some (.ref 43), some (.ref 1), some (.int (nI y)), y3] [] (am_WH R' Z A Y) = some (none, am_WH R'' (am_up (am_up Z 35 (nI N)) 36 (nI (N - M))) A Y) := by
    intro m
    induction m with
    | zero =>
      intro y R' y3 hy hR hd hh
      obtain rfl : y = N := by omega
      have c := hcl y
      have g : bt (R' 39 (aw_ce (d y) 7 / 32)) (aw_ce (d y) 7 % 32) = true := (hh _ c).mpr ⟨M, hM, e1⟩
      obtain ⟨R2, hR2, e3⟩ := s_yearsRound X R' (am_up Z 35 (nI y)) A Y (d := d) (fun n => by rw [hst n, hR 3 (by omega)]; rfl) (N := y) (T := y - M) (c := aw_ce (d y) 7) c hlt (by omega) (by omega) (by rw [ag, show M + (y - M) = y by omega]) (fun t h1 h2 z => e2 (M + t) (by omega) M (by omega) (by rw [e1, ← z, ag])) hd
      refine ⟨R2, fun j hj => (hR2 j hj).trans (hR j hj), ?_⟩
      generalize hce : aw_ce (d y) 7 = ce at c g e3
      rw [b_X2_findAgain_14, if_neg (show ¬ (2187 : Int32) < nI y from nI_nlt (a := 2187) (b := y) (by omega) (by omega)), b_X2_findAgain_21, s_heldAsNumber X R' Z A Y hd, am_C_v, b_X2_findAgain_25, hce, show nI ce / 32 = nI (ce / 32) from pk_div (d := 32) (by omega) (by omega) (by omega), d_X1_get_48, am_rg_nI (by omega) (by omega), am_C_v, b_X2_findAgain_37, show nI ce - nI ce / 32 * 32 = nI (ce % 32) from pk_rem (d := 32) (by omega) (by omega) (by omega), s_has, am_C_v, b_X2_findAgain_44, am_bI_t ((am_hs_nI (by omega)).mpr g), if_neg (by decide), b_X2_findAgain_47, e3, am_C_v, b_X2_findAgain_59]
    | succ m ih =>
      intro y R' y3 hy hR hd hh
      have c := hcl y
      have g : ¬ bt (R' 39 (aw_ce (d y) 7 / 32)) (aw_ce (d y) 7 % 32) = true := fun z => by
        obtain ⟨j, hj, e⟩ := (hh _ c).mp z
        exact e2 y (by omega) j hj e
      obtain ⟨w, hw⟩ : ∃ w, w = R' 39 (aw_ce (d y) 7 / 32) ||| ((1 : Int32) <<< (nI (aw_ce (d y) 7 % 32) &&& 31)) := ⟨_, rfl⟩
      obtain ⟨R2, hR2, hd2, e2'⟩ := s_passYear X (am_up R' 39 (upd (R' 39) (aw_ce (d y) 7 / 32) w)) Z A Y (d := d y) hd
      have e3 : am_up R' 39 (upd (R' 39) (aw_ce (d y) 7 / 32) w) 3 = R 3 := hR 3 (by omega)
      rw [e3, ← hst y] at hd2
      have h39 : ∀ x, x < 2187 → (bt (R2 39 (x / 32)) (x % 32) = true ↔ ∃ j, j < y + 1 ∧ aw_ce (d j) 7 = x) := fun x hx => by
        rw [hR2 39 (by omega) (by omega), am_up_s]
        have split : (∃ j, j < y + 1 ∧ aw_ce (d j) 7 = x) ↔ ((∃ j, j < y ∧ aw_ce (d j) 7 = x) ∨ aw_ce (d y) 7 = x) := by
          constructor
          · rintro ⟨j, hj, e⟩
            by_cases z : j = y
            · subst z; exact Or.inr e
            · exact Or.inl ⟨j, by omega, e⟩
          · rintro (⟨j, hj, e⟩ | e)
            · exact ⟨j, by omega, e⟩
            · exact ⟨y, by omega, e⟩
        rw [split, ← hh x hx]
        by_cases q : x / 32 = aw_ce (d y) 7 / 32
        · rw [q, upd_s, hw, b_or, b_bit _ (by omega) (by omega), Bool.or_eq_true, decide_eq_true_eq]
          refine or_congr Iff.rfl ⟨fun z => by omega, fun z => by rw [z]⟩
        · rw [upd_n _ _ q]
          exact ⟨Or.inl, fun z => z.elim id (fun z => absurd (by rw [z]) q)⟩
      generalize hce : aw_ce (d y) 7 = ce at c g hw e2' h39
      rw [b_X2_findAgain_14, if_neg (show ¬ (2187 : Int32) < nI y from nI_nlt (a := 2187) (b := y) (by omega) (by omega)), b_X2_findAgain_21, s_heldAsNumber X R' Z A Y hd, am_C_v, b_X2_findAgain_25, hce, show nI ce / 32 = nI (ce / 32) from pk_div (d := 32) (by omega) (by omega) (by omega), d_X1_get_48, am_rg_nI (by omega) (by omega), am_C_v, b_X2_findAgain_37, show nI ce - nI ce / 32 * 32 = nI (ce % 32) from pk_rem (d := 32) (by omega) (by omega) (by omega), s_has, am_C_v, b_X2_findAgain_44, am_bI_f (fun z => g ((am_hs_nI (by omega)).mp z)), if_pos rfl, b_X2_findAgain_63, show nI ce / 32 = nI (ce / 32) from pk_div (d := 32) (by omega) (by omega) (by omega), d_X1_get_48, am_rg_nI (by omega) (by omega), am_C_v, b_X2_findAgain_82, show nI ce - nI ce / 32 * 32 = nI (ce % 32) from pk_rem (d := 32) (by omega) (by omega) (by omega), d_X1_set_48, am_rs_nI (by omega) (by omega), am_C_0, b_X2_findAgain_92, ← hw, e2', am_C_0, b_X2_findAgain_97, nI_1]
      exact ih (y + 1) R2 _ (by omega) (fun j hj => (hR2 j (by omega) (by omega)).trans ((am_up_n _ _ (by omega)).trans (hR j hj))) hd2 h39
  obtain ⟨R1, hR1, hc1, ec⟩ := s_clear X (am_up R 37 (am_rc 7 (R 37) (R 1))) Z A Y
  rw [d_X2_findAgain, b_X2_findAgain_0, s_start, am_C_0, b_X2_findAgain_5, ec, am_C_0, b_X2_findAgain_12]
  refine loop N 0 R1 _ (by omega) (fun j hj => (hR1 j (by omega)).trans (am_up_n _ _ (by omega))) (fun k hk => ?_) (fun x hx => ?_)
  · rw [hR1 37 (by omega), am_up_s]
    unfold am_rc
    rw [if_pos hk, ed]
    exact hd0 k hk
  · rw [hc1 _ (by omega), b_0]
    exact ⟨fun z => absurd z (by decide), fun ⟨j, hj, _⟩ => absurd hj (Nat.not_lt_zero j)⟩
/-- the reference -/
theorem l_magain0 (X : AMx) (R : Nat → Nat → Int32) (Z : Nat → Int32) (A : Nat → Nat → Int32) (Y : Nat → Int32) (l1 : Int32) : ∀ m k g, k + m = 2187 → (∀ j, j < k → g j = 0) → ∃ g', (∀ j, j < 2187 → g' j = 0) ∧ am_E X AM_X6_again 14 [some (.ref 88), some (.int l1), some (.int (nI k)), none] [] (am_WH R Z (am_up A 11 g) Y) = am_E X AM_X6_again 34 [some (.ref 88), some (.int l1), some (.int (nI 2187)), none] [] (am_WH R Z (am_up A 11 g') Y) := by
  intro m
  induction m with
  | zero =>
    intro k g hk hg
    obtain rfl : k = 2187 := by omega
    rw [b_X6_again_14, if_pos (show (2187 : Int32) ≤ nI 2187 by decide)]
    exact ⟨g, hg, rfl⟩
  | succ m ih =>
    intro k g hk hg
    rw [b_X6_again_14, if_neg (show ¬ (2187 : Int32) ≤ nI k from nI_ge (a := k) (b := 2187) (by omega) (by omega)), b_X6_again_21, if_pos (am_in_nI (by omega) (by omega)), am_cl (by omega), am_up_s, am_uu, b_X6_again_28, nI_1]
    refine ih (k + 1) (upd g k 0) (by omega) (fun j hj => ?_)
    by_cases e : j = k
    · subst e; exact upd_s _ _ _
    · rw [upd_n _ _ e]; exact hg j (by omega)
theorem l_magain (X : AMx) (R : Nat → Nat → Int32) (Z : Nat → Int32) (A : Nat → Nat → Int32) (Y : Nat → Int32) (l1 : Int32) {d : Nat → Nat → Nat} (hlt : ∀ n k, k < 7 → d n k < 3) (hs : ∀ n, d (n + 1) = aw_y (Y 0) (A 3) (d n)) {N M : Nat} (hN : N ≤ 2187) (hM : M < N) (e1 : aw_cd (d M) 7 = aw_cd (d N) 7) (e2 : ∀ y, y < N → ∀ m, m < y → aw_cd (d m) 7 ≠ aw_cd (d y) 7) : ∀ m n g, n + m = N → (∀ j, j < n → g (aw_cd (d j) 7) = nI (j + 1)) → (∀ x, x < 2187 → (∀ j, j < n → aw_cd (d j) 7 ≠ x) → g x = 0) → ∃ g', am_E X AM_X6_again 41 [some (.ref 88), some (.int l1), some (.int (nI (aw_cd (d n) 7))), some (.int (nI n))] [] (am_WH R Z (am_up A 11 g) Y) = some (some (.int (if l1 = 0 then nI N else nI (N - M))), am_WH R Z (am_up A 11 g') Y) := by
  have hcl : ∀ n, aw_cd (d n) 7 < 2187 := fun n => aw_cd_lt7 (hlt n)
  intro m
  induction m with
  | zero =>
    intro n g hn h1 h2
    obtain rfl : n = N := by omega
    have c := hcl n
    have hg : g (aw_cd (d n) 7) = nI (M + 1) := by rw [← e1]; exact h1 M hM
    refine ⟨g, ?_⟩
    rw [b_X6_again_41, if_pos (am_in_nI c (by omega)), am_cl (by omega), am_up_s, b_X6_again_47, hg, if_neg (nI_ne0 (by omega) (by omega)), b_X6_again_71]
    by_cases g0 : l1 = 0
    · rw [if_pos g0, if_pos g0, b_X6_again_75]
    · rw [if_neg g0, if_neg g0, b_X6_again_79, if_pos (am_in_nI c (by omega)), am_cl (by omega), am_up_s, b_X6_again_88, hg, nI_1, pk_sub (by omega), show n + 1 - (M + 1) = n - M by omega]
  | succ m ih =>
    intro n g hn h1 h2
    have c := hcl n
    have hg : g (aw_cd (d n) 7) = 0 := h2 _ c (fun j hj => e2 n (by omega) j hj)
    rw [b_X6_again_41, if_pos (am_in_nI c (by omega)), am_cl (by omega), am_up_s, b_X6_again_47, hg, if_pos rfl, b_X6_again_50, if_pos (am_in_nI c (by omega)), am_cl (by omega), am_up_s, am_uu, b_X6_again_59, s_yearOn X R Z _ Y (hlt n), am_C_v, b_X6_again_64, nI_1]
    rw [show aw_y (Y 0) (am_up A 11 (upd g (aw_cd (d n) 7) (nI (n + 1))) 3) (d n) = d (n + 1) from (hs n).symm]
    refine ih (n + 1) _ (by omega) (fun j hj => ?_) (fun x hx hx2 => ?_)
    · by_cases e : j = n
      · subst e; exact upd_s _ _ _
      · rw [upd_n _ _ (e2 n (by omega) j (by omega))]; exact h1 j (by omega)
    · rw [upd_n _ _ (fun z => hx2 n (by omega) z.symm)]
      exact h2 x hx (fun j hj => hx2 j (by omega))
theorem op_again (X : AMx) (b : Int32) : am_OP X 75 147 [.int b] := by
  intro R Z A Y hI
  have v1 : Z 1 = Y 0 ∧ am_rn (Z 1) 0 127 := hI.1 1
  have v8 : ∀ i, i < 7 → R 1 i = A 0 i ∧ am_rn (R 1 i) 0 2 := hI.1 8
  have v10 : ∀ i, i < 7 → R 3 i = A 3 i ∧ am_rn (R 3 i) 0 127 := hI.1 10
  by_cases h1 : 0 ≤ b ∧ b ≤ 1
  · have hd0 : ∀ k, k < 7 → R 1 k = nI (R 1 k).toNatClampNeg ∧ (R 1 k).toNatClampNeg < 3 := fun k hk => aw_tn (v8 k hk).2 (by omega) (by omega)
    have hdC : ∀ n k, k < 7 → aw_it (Z 1) (R 3) (fun k => (R 1 k).toNatClampNeg) n k < 3 := fun n k hk => aw_it_lt (hd0 k hk).2 n
    have hdR0 : ∀ k, k < 7 → aw_d0 (Y 0) (A 0) k < 3 := fun k hk => by
      unfold aw_d0
      split
      · rw [← (v8 k hk).1]; exact (hd0 k hk).2
      · omega
    have hdR : ∀ n k, k < 7 → aw_it (Y 0) (A 3) (aw_d0 (Y 0) (A 0)) n k < 3 := fun n k hk => aw_it_lt (hdR0 k hk) n
    have ekn : ∀ d k, k < 7 → aw_y (Z 1) (R 3) d k = aw_y (Y 0) (A 3) d k := fun d k hk => by
      unfold aw_y aw_set; rw [v1.1, (v10 k hk).1]
    have e1 : ∀ n k, k < 7 → aw_it (Z 1) (R 3) (fun k => (R 1 k).toNatClampNeg) n k = aw_it (Y 0) (A 3) (fun k => (R 1 k).toNatClampNeg) n k := by
      intro n
      induction n with
      | zero => intro k _; rfl
      | succ n ih =>
        intro k hk
        show aw_y _ _ (aw_it _ _ _ n) k = aw_y _ _ (aw_it _ _ _ n) k
        rw [ekn _ k hk]
        unfold aw_y
        rw [ih k hk]
        congr 1
        funext c
        exact aw_hc_cong (fun x hx _ => ih x hx)
    -- of who is there the same; of the others nothing changes
    have eT : ∀ n k, k < 7 → bt (Y 0) k = true → aw_it (Z 1) (R 3) (fun k => (R 1 k).toNatClampNeg) n k = aw_it (Y 0) (A 3) (aw_d0 (Y 0) (A 0)) n k := by
      intro n k hk hb
      rw [e1 n k hk]
      refine aw_it_cong (fun x hx hb => ?_) n k hk hb
      show (R 1 x).toNatClampNeg = aw_d0 (Y 0) (A 0) x
      unfold aw_d0
      rw [if_pos hb, (v8 x hx).1]
    have both : ∀ i j, (aw_ce (aw_it (Z 1) (R 3) (fun k => (R 1 k).toNatClampNeg) i) 7 = aw_ce (aw_it (Z 1) (R 3) (fun k => (R 1 k).toNatClampNeg) j) 7) ↔ (aw_cd (aw_it (Y 0) (A 3) (aw_d0 (Y 0) (A 0)) i) 7 = aw_cd (aw_it (Y 0) (A 3) (aw_d0 (Y 0) (A 0)) j) 7) := by
      intro i j
      constructor
      · intro z
        have z' := aw_ce_inj (hdC i) (hdC j) (Nat.le_refl 7) z
        refine aw_cd_cong (Nat.le_refl _) (fun k hk => ?_)
        by_cases hb : bt (Y 0) k = true
        · rw [← eT i k hk hb, ← eT j k hk hb]; exact z' k hk
        · rw [aw_it_no hb, aw_it_no hb]
      · intro z
        have z' := aw_cd_inj (hdR i) (hdR j) (Nat.le_refl 7) z
        refine aw_ce_cong (Nat.le_refl _) (fun k hk => ?_)
        by_cases hb : bt (Y 0) k = true
        · rw [eT i k hk hb, eT j k hk hb]; exact z' k hk (by omega)
        · rw [aw_it_no (by rw [v1.1]; exact hb), aw_it_no (by rw [v1.1]; exact hb)]
    obtain ⟨i0, j0, hij, hj0, eij⟩ := fb_twice (m := 2187) (n := 2188) (f := fun n => aw_cd (aw_it (Y 0) (A 3) (aw_d0 (Y 0) (A 0)) n) 7) (fun i _ => aw_cd_lt7 (hdR i)) (by omega)
    obtain ⟨N, ⟨M, hM, eMN⟩, hmin⟩ := pk_least (fun n => ∃ m, m < n ∧ aw_cd (aw_it (Y 0) (A 3) (aw_d0 (Y 0) (A 0)) m) 7 = aw_cd (aw_it (Y 0) (A 3) (aw_d0 (Y 0) (A 0)) n) 7) ⟨j0, i0, hij, eij⟩
    have hN : N ≤ 2187 := by
      false_or_by_contra
      rename_i q
      exact hmin j0 (by omega) ⟨i0, hij, eij⟩
    have hmin' : ∀ y, y < N → ∀ m, m < y → aw_cd (aw_it (Y 0) (A 3) (aw_d0 (Y 0) (A 0)) m) 7 ≠ aw_cd (aw_it (Y 0) (A 3) (aw_d0 (Y 0) (A 0)) y) 7 := fun y hy m hm z => hmin y hy ⟨m, hm, z⟩
    obtain ⟨R', hR', eC⟩ := s_findAgain X R Z A Y (fun k hk => (v8 k hk).2) rfl hN hM ((both M N).mpr eMN) (fun y hy m hm z => hmin' y hy m hm ((both m y).mp z))
    obtain ⟨g1, hg1, eZ⟩ := l_magain0 X R' (am_up (am_up Z 35 (nI N)) 36 (nI (N - M))) A Y b 2187 0 (A 11) (by omega) (fun j hj => absurd hj (Nat.not_lt_zero j))
    obtain ⟨g2, eR⟩ := l_magain X R' (am_up (am_up Z 35 (nI N)) 36 (nI (N - M))) A Y b hdR (fun n => rfl) hN hM eMN hmin' N 0 g1 (by omega) (fun j hj => absurd hj (Nat.not_lt_zero j)) (fun x hx _ => hg1 x hx)
    have eA : am_up A 11 (A 11) = A := am_up_self A 11
    rw [eA] at eZ
    refine ⟨.int (if b = 0 then nI N else nI (N - M)), R', am_up (am_up Z 35 (nI N)) 36 (nI (N - M)), am_up A 11 g2, Y, ?_, ?_, am_INV_congr (fun j hj => hR' j (by omega)) (fun j hj => by rw [am_up_n _ _ (by omega), am_up_n _ _ (by omega)]) (fun j h1 h2 h3 h4 => am_up_n _ _ h4) (fun _ _ => rfl) hI⟩
    · rw [d_X5_again, b_X5_again_0, s_isIn, am_C_v, am_bI_t h1, b_X5_again_6, if_neg (by decide), b_X5_again_12, eC, am_C_0, b_X5_again_23]
      by_cases hb : b = 0
      · rw [if_pos hb, if_pos hb, b_X5_again_27]
        rfl
      · rw [if_neg hb, if_neg hb, b_X5_again_37]
        rfl
    · rw [d_X6_again, b_X6_again_0, s_in, am_C_v, am_bI_t h1, b_X6_again_6, if_neg (by decide), b_X6_again_12]
      refine eZ.trans ?_
      rw [b_X6_again_34, s_creedsNow X R' _ (am_up A 11 g1) Y (fun k hk => by show am_rn (A 0 k) 0 2; rw [← (v8 k hk).1]; exact (v8 k hk).2), am_C_v, b_X6_again_38]
      exact eR
  · refine ⟨.int (-2), R, Z, A, Y, ?_, ?_, hI⟩
    · rw [d_X5_again, b_X5_again_0, s_isIn, am_C_v, am_bI_f h1, b_X5_again_6, if_pos rfl, b_X5_again_9]
    · rw [d_X6_again, b_X6_again_0, s_in, am_C_v, am_bI_f h1, b_X6_again_6, if_pos rfl, b_X6_again_9]
