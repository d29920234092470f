/-! book: a year-book by draws. -/
theorem am_AC_f {r : Int32} {Z Z' : Nat → Int32} {f f' : Nat} (h : (0 < r ∧ f' = f ∧ Z' 29 = Z 29 ∧ Z' 32 = Z 32) ∨ (r = 0 ∧ Z' 29 = Z 29 + 1 ∧ ((f' = f ∧ Z' 32 = Z 32) ∨ (f' = f + 1 ∧ Z' 32 = if f = 0 then Z 29 else Z 32)))) : f' ≤ f + 1 := by
  rcases h with h | ⟨_, _, h | h⟩
  · omega
  · omega
  · omega
theorem l_book (X : AMx) {M : Nat} (hM : M < 100) (sd l3 : Int32) : ∀ (m n x f : Nat) (R : Nat → Nat → Int32) (Z : Nat → Int32) (A : Nat → Nat → Int32) (Y : Nat → Int32) (y6 z6 z7 : Option Value), n + m = M → x < 65537 → f ≤ n → am_TL R Z A Y f → ∃ (f' : Nat) (R' : Nat → Nat → Int32) (Z' : Nat → Int32) (A' : Nat → Nat → Int32) (Y' : Nat → Int32), am_TL R' Z' A' Y' f' ∧ am_kp R Z A Y R' Z' A' Y' ∧ (∀ (A : Nat → Nat → Int32) (Y : Nat → Int32), am_E X AM_X3_tellBook 11 [some (.ref 23), some (.int sd), some (.int (nI M)), some (.ref 1), some (.int (nI x)), some (.int (nI n)), y6] [] (am_WH R Z A Y) = some (none, am_WH R' Z' A Y)) ∧ (∀ (R : Nat → Nat → Int32) (Z : Nat → Int32), ∃ (l4 l5 : Int32) (w6 w7 : Option Value), am_E X AM_X6_book 43 [some (.ref 88), some (.int sd), some (.int (nI M)), some (.int l3), some (.int (nI x)), some (.int (nI n)), z6, z7] [] (am_WH R Z A Y) = am_E X AM_X6_book 162 [some (.ref 88), some (.int sd), some (.int (nI M)), some (.int l3), some (.int l4), some (.int l5), w6, w7] [] (am_WH R Z A' Y')) := by
  intro m
  induction m with
  | zero =>
    intro n x f R Z A Y y6 z6 z7 hn hx hf hT
    obtain rfl : n = M := by omega
    exact ⟨f, R, Z, A, Y, hT, am_kp_refl R Z A Y, fun A Y => by rw [b_X3_tellBook_11, if_pos (Int32.le_refl _), b_X3_tellBook_85], fun R Z => ⟨nI x, nI n, z6, z7, by rw [b_X6_book_43, if_pos (Int32.le_refl _)]⟩⟩
  | succ m ih =>
    intro n x f R Z A Y y6 z6 z7 hn hx hf hT
    obtain ⟨x1, ex1⟩ : ∃ x1, x1 = (75 * x + 74) % 65537 := ⟨_, rfl⟩
    have hx1 : x1 < 65537 := by rw [ex1]; exact Nat.mod_lt _ (by omega)
    have ex : (75 : Int32) * nI x + 74 - ((75 : Int32) * nI x + 74) / 65537 * 65537 = nI x1 := by
      rw [show (75 : Int32) = nI 75 from rfl, pk_mul, show (74 : Int32) = nI 74 from rfl, nI_add, show (65537 : Int32) = nI 65537 from rfl, pk_rem (by omega) (by omega) (by omega), ex1]
    have e8 : nI x1 - nI x1 / 8 * 8 = nI (x1 % 8) := pk_rem (d := 8) (by omega) (by omega) (by omega)
    have d8 : nI x1 / 8 = nI (x1 / 8) := pk_div (d := 8) (by omega) (by omega) (by omega)
    have d56 : nI x1 / 56 = nI (x1 / 56) := pk_div (d := 56) (by omega) (by omega) (by omega)
    have e7 : nI (x1 / 8) - nI (x1 / 8) / 7 * 7 = nI (x1 / 8 % 7) := pk_rem (d := 7) (by omega) (by omega) (by omega)
    have e568 : nI (x1 / 56) - nI (x1 / 56) / 8 * 8 = nI (x1 / 56 % 8) := pk_rem (d := 8) (by omega) (by omega) (by omega)
    have e563 : nI (x1 / 56) - nI (x1 / 56) / 3 * 3 = nI (x1 / 56 % 3) := pk_rem (d := 3) (by omega) (by omega) (by omega)
    have hr8 : x1 % 8 < 8 := Nat.mod_lt _ (by omega)
    have hw : x1 / 56 % 8 < 8 := Nat.mod_lt _ (by omega)
    have hc : x1 / 56 % 3 < 3 := Nat.mod_lt _ (by omega)
    have cgo : ∀ (kd r : Int32) (t : Nat) (R1 : Nat → Nat → Int32) (Z1 : Nat → Int32), (kd = 2 → t = x1 / 56 % 3) → (¬ kd = 2 → t = x1 / 56 % 8) → (∀ h, am_D X 27 [.int (nI (x1 % 8))] h = some (some (.int kd), h)) → (∀ (A : Nat → Nat → Int32) (Y : Nat → Int32), am_D X 28 [.ref 23, .int kd, .int (nI (x1 / 8 % 7)), .int (nI t)] (am_WH R Z A Y) = some (some (.int r), am_WH R1 Z1 A Y)) → ∀ (A : Nat → Nat → Int32) (Y : Nat → Int32), am_E X AM_X3_tellBook 11 [some (.ref 23), some (.int sd), some (.int (nI M)), some (.ref 1), some (.int (nI x)), some (.int (nI n)), y6] [] (am_WH R Z A Y) = am_E X AM_X3_tellBook 11 [some (.ref 23), some (.int sd), some (.int (nI M)), some (.ref 1), some (.int (nI x1)), some (.int (nI (n + 1))), some (.int kd)] [] (am_WH R1 Z1 A Y) := by
      intro kd r t R1 Z1 ht1 ht2 hk ha A Y
      rw [b_X3_tellBook_11, if_neg (nI_ge (by omega) (by omega)), b_X3_tellBook_17, ex, e8, hk, am_C_v, b_X3_tellBook_38, d8, e7]
      by_cases g : kd = 2
      · rw [if_pos g, b_X3_tellBook_57, d56, e563, ← ht1 g, ha, am_C_v, b_X3_tellBook_78, nI_1]
      · rw [if_neg g, b_X3_tellBook_67, d56, e568, ← ht2 g, ha, am_C_v, b_X3_tellBook_78, nI_1]
    have m49 : ∀ (R : Nat → Nat → Int32) (Z : Nat → Int32) (A : Nat → Nat → Int32) (Y : Nat → Int32), am_E X AM_X6_book 43 [some (.ref 88), some (.int sd), some (.int (nI M)), some (.int l3), some (.int (nI x)), some (.int (nI n)), z6, z7] [] (am_WH R Z A Y) = if (3 : Int32) ≤ nI (x1 % 8) then am_E X AM_X6_book 103 [some (.ref 88), some (.int sd), some (.int (nI M)), some (.int l3), some (.int (nI x1)), some (.int (nI n)), some (.int (nI (x1 % 8))), some (.int (nI (x1 / 8 % 7)))] [] (am_WH R Z A Y) else am_E X AM_X6_book 85 [some (.ref 88), some (.int sd), some (.int (nI M)), some (.int l3), some (.int (nI x1)), some (.int (nI n)), some (.int (nI (x1 % 8))), some (.int (nI (x1 / 8 % 7)))] [] (am_WH R Z A Y) := by
      intro R Z A Y
      rw [b_X6_book_43, if_neg (nI_ge (by omega) (by omega)), b_X6_book_49, ex, e8, d8, e7]
    have fin : ∀ (f1 : Nat) (R1 : Nat → Nat → Int32) (Z1 : Nat → Int32) (A1 : Nat → Nat → Int32) (Y1 : Nat → Int32) (kd : Int32), f1 ≤ f + 1 → am_TL R1 Z1 A1 Y1 f1 → am_kp R Z A Y R1 Z1 A1 Y1 → (∀ (A : Nat → Nat → Int32) (Y : Nat → Int32), am_E X AM_X3_tellBook 11 [some (.ref 23), some (.int sd), some (.int (nI M)), some (.ref 1), some (.int (nI x)), some (.int (nI n)), y6] [] (am_WH R Z A Y) = am_E X AM_X3_tellBook 11 [some (.ref 23), some (.int sd), some (.int (nI M)), some (.ref 1), some (.int (nI x1)), some (.int (nI (n + 1))), some (.int kd)] [] (am_WH R1 Z1 A Y)) → (∀ (R : Nat → Nat → Int32) (Z : Nat → Int32), am_E X AM_X6_book 43 [some (.ref 88), some (.int sd), some (.int (nI M)), some (.int l3), some (.int (nI x)), some (.int (nI n)), z6, z7] [] (am_WH R Z A Y) = am_E X AM_X6_book 43 [some (.ref 88), some (.int sd), some (.int (nI M)), some (.int l3), some (.int (nI x1)), some (.int (nI (n + 1))), some (.int (nI (x1 % 8))), some (.int (nI (x1 / 8 % 7)))] [] (am_WH R Z A1 Y1)) → ∃ (f' : Nat) (R' : Nat → Nat → Int32) (Z' : Nat → Int32) (A' : Nat → Nat → Int32) (Y' : Nat → Int32), am_TL R' Z' A' Y' f' ∧ am_kp R Z A Y R' Z' A' Y' ∧ (∀ (A : Nat → Nat → Int32) (Y : Nat → Int32), am_E X AM_X3_tellBook 11 [some (.ref 23), some (.int sd), some (.int (nI M)), some (.ref 1), some (.int (nI x)), some (.int (nI n)), y6] [] (am_WH R Z A Y) = some (none, am_WH R' Z' A Y)) ∧ (∀ (R : Nat → Nat → Int32) (Z : Nat → Int32), ∃ (l4 l5 : Int32) (w6 w7 : Option Value), am_E X AM_X6_book 43 [some (.ref 88), some (.int sd), some (.int (nI M)), some (.int l3), some (.int (nI x)), some (.int (nI n)), z6, z7] [] (am_WH R Z A Y) = am_E X AM_X6_book 162 [some (.ref 88), some (.int sd), some (.int (nI M)), some (.int l3), some (.int l4), some (.int l5), w6, w7] [] (am_WH R Z A' Y')) := by
      intro f1 R1 Z1 A1 Y1 kd hf1 hT1 hK1 hc1 hm1
      obtain ⟨f', R', Z', A', Y', g1, g2, g3, g4⟩ := ih (n + 1) x1 f1 R1 Z1 A1 Y1 (some (.int kd)) (some (.int (nI (x1 % 8)))) (some (.int (nI (x1 / 8 % 7)))) (by omega) hx1 (by omega) hT1
      refine ⟨f', R', Z', A', Y', g1, am_kp_trans hK1 g2, fun A Y => (hc1 A Y).trans (g3 A Y), fun R Z => ?_⟩
      obtain ⟨l4, l5, w6, w7, g5⟩ := g4 R Z
      exact ⟨l4, l5, w6, w7, (hm1 R Z).trans g5⟩
    by_cases c1 : x1 % 8 < 3
    · obtain ⟨r, R1, Z1, A1, Y1, f1, hT1, hK1, _, hC, ha, hQ⟩ := act_build X hT (nI (x1 / 8 % 7)) hw
      refine fin f1 R1 Z1 A1 Y1 0 (am_AC_f hC) hT1 hK1 (cgo 0 r (x1 / 56 % 8) R1 Z1 (fun z => absurd z (by decide)) (fun _ => rfl) (fun h => ?_) ha) (fun R Z => ?_)
      · rw [d_X3_kindDrawn, b_X3_kindDrawn_0, if_neg (show ¬ (3 : Int32) ≤ nI (x1 % 8) from nI_ge (b := 3) c1 (by omega)), b_X3_kindDrawn_5]
      · rw [m49, if_neg (show ¬ (3 : Int32) ≤ nI (x1 % 8) from nI_ge (b := 3) c1 (by omega)), b_X6_book_85, d56, e568, hQ, am_C_v, b_X6_book_99, nI_1]
    · by_cases c2 : x1 % 8 < 6
      · obtain ⟨r, R1, Z1, A1, Y1, f1, hT1, hK1, _, hC, ha, hQ⟩ := act_climb X hT (by omega) (nI (x1 / 8 % 7)) hw
        refine fin f1 R1 Z1 A1 Y1 1 (am_AC_f hC) hT1 hK1 (cgo 1 r (x1 / 56 % 8) R1 Z1 (fun z => absurd z (by decide)) (fun _ => rfl) (fun h => ?_) ha) (fun R Z => ?_)
        · rw [d_X3_kindDrawn, b_X3_kindDrawn_0, if_pos (show (3 : Int32) ≤ nI (x1 % 8) from nI_le (a := 3) (by omega) (by omega)), b_X3_kindDrawn_7, if_neg (show ¬ (6 : Int32) ≤ nI (x1 % 8) from nI_ge (b := 6) c2 (by omega)), b_X3_kindDrawn_13]
        · rw [m49, if_pos (show (3 : Int32) ≤ nI (x1 % 8) from nI_le (a := 3) (by omega) (by omega)), b_X6_book_103, if_neg (show ¬ (6 : Int32) ≤ nI (x1 % 8) from nI_ge (b := 6) c2 (by omega)), b_X6_book_110, d56, e568, hQ, am_C_v, b_X6_book_124, nI_1]
      · by_cases c3 : x1 % 8 = 6
        · obtain ⟨r, R1, Z1, A1, Y1, f1, hT1, hK1, _, hC, ha, hr0, hQ⟩ := act_quake X hT (nI (x1 / 8 % 7)) (nI (x1 / 56 % 8))
          refine fin f1 R1 Z1 A1 Y1 3 (am_AC_f hC) hT1 hK1 (cgo 3 r (x1 / 56 % 8) R1 Z1 (fun z => absurd z (by decide)) (fun _ => rfl) (fun h => ?_) ha) (fun R Z => ?_)
          · rw [d_X3_kindDrawn, b_X3_kindDrawn_0, c3, if_pos (by decide), b_X3_kindDrawn_7, if_pos (by decide), b_X3_kindDrawn_15, if_pos (by decide), b_X3_kindDrawn_21]
          · rw [m49, c3, if_pos (by decide), b_X6_book_103, if_pos (by decide), b_X6_book_128, if_pos (by decide), b_X6_book_135, hQ, am_C_0, b_X6_book_139, nI_1]
        · have c7 : x1 % 8 = 7 := by omega
          obtain ⟨r, R1, Z1, A1, Y1, f1, hT1, hK1, _, hC, ha, hQ⟩ := act_convert X hT (nI (x1 / 8 % 7)) hc
          refine fin f1 R1 Z1 A1 Y1 2 (am_AC_f hC) hT1 hK1 (cgo 2 r (x1 / 56 % 3) R1 Z1 (fun _ => rfl) (fun z => absurd rfl z) (fun h => ?_) ha) (fun R Z => ?_)
          · rw [d_X3_kindDrawn, b_X3_kindDrawn_0, c7, if_pos (by decide), b_X3_kindDrawn_7, if_pos (by decide), b_X3_kindDrawn_15, if_neg (by decide), b_X3_kindDrawn_25]
          · rw [m49, c7, if_pos (by decide), b_X6_book_103, if_pos (by decide), b_X6_book_128, if_neg (by decide), b_X6_book_142, d56, e563, hQ, am_C_v, b_X6_book_155, nI_1]
/-- doubt of all together -/
def aw_ds (th : Int32) (d : Nat → Int32) : Nat → Int32
  | 0 => 0
  | n + 1 => if bt th n = true then aw_ds th d n + d n else aw_ds th d n
theorem aw_ds_cong {th : Int32} {d e : Nat → Int32} : ∀ {n : Nat}, (∀ k, k < n → d k = e k) → aw_ds th d n = aw_ds th e n
  | 0, _ => rfl
  | n + 1, h => by rw [aw_ds, aw_ds, aw_ds_cong (fun k hk => h k (by omega)), h n (by omega)]
theorem s_doubtOfAll (X : AMx) (R : Nat → Nat → Int32) (Z : Nat → Int32) (A : Nat → Nat → Int32) (Y : Nat → Int32) : am_D X 43 [.ref 24] (am_WH R Z A Y) = some (some (.int (aw_ds (Z 8) (R 11) 7)), am_WH R Z A Y) := by
  rw [d_X4_doubtOfAll_24, b_X4_doubtOfAll_24_0]
  refine am_loop (E := fun k => am_E X AM_X4_doubtOfAll 4 [some (.ref 24), some (.int (aw_ds (Z 8) (R 11) k)), some (.int (nI k))] [] (am_WH R Z A Y)) 7 ?_ ?_
  · try dsimp only
    rw [b_X4_doubtOfAll_24_4, if_pos (show (7 : Int32) ≤ nI 7 by decide), b_X4_doubtOfAll_24_39]
  · intro k hk
    try dsimp only
    rw [b_X4_doubtOfAll_24_4, if_neg (show ¬ (7 : Int32) ≤ nI k from nI_ge (a := k) (b := 7) (by omega) (by omega)), b_X4_doubtOfAll_24_10, s_isThere2, am_C_v, b_X4_doubtOfAll_24_16]
    by_cases g : bt (Z 8) k = true
    · rw [am_bI_t ((am_hs_nI (by omega)).mpr g), if_neg (by decide), b_X4_doubtOfAll_24_19, d_X1_get_29, am_rg_nI hk (by omega), am_C_v, b_X4_doubtOfAll_24_27, nI_1, aw_ds, if_pos g]
    · rw [am_bI_f (fun z => g ((am_hs_nI (by omega)).mp z)), if_pos rfl, b_X4_doubtOfAll_24_30, nI_1, Int32.add_zero, aw_ds, if_neg g]
theorem l_mdoubt (X : AMx) (R : Nat → Nat → Int32) (Z : Nat → Int32) (A : Nat → Nat → Int32) (Y : Nat → Int32) (l1 l2 l3 l4 l5 : Int32) (y6 y7 : Option Value) : am_E X AM_X6_book 162 [some (.ref 88), some (.int l1), some (.int l2), some (.int l3), some (.int l4), some (.int l5), y6, y7] [] (am_WH R Z A Y) = am_E X AM_X6_book 212 [some (.ref 88), some (.int l1), some (.int l2), some (.int l3), some (.int l4), some (.int (aw_ds (Y 0) (fun k => A 1 (7 + k)) 7)), some (.int (nI 7)), y7] [] (am_WH R Z A Y) := by
  rw [b_X6_book_162]
  refine am_loop (E := fun k => am_E X AM_X6_book 168 [some (.ref 88), some (.int l1), some (.int l2), some (.int l3), some (.int l4), some (.int (aw_ds (Y 0) (fun k => A 1 (7 + k)) k)), some (.int (nI k)), y7] [] (am_WH R Z A Y)) 7 ?_ ?_
  · try dsimp only
    rw [b_X6_book_168, if_pos (show (7 : Int32) ≤ nI 7 by decide)]
  · intro k hk
    try dsimp only
    rw [b_X6_book_168, if_neg (show ¬ (7 : Int32) ≤ nI k from nI_ge (a := k) (b := 7) (by omega) (by omega)), b_X6_book_175, s_mhas, am_C_v, b_X6_book_186]
    by_cases g : bt (Y 0) k = true
    · rw [am_bI_t ((b_one k (by omega) _).mpr g), if_neg (by decide), b_X6_book_189, am_a7, if_pos (am_in_nI (by omega) (by omega)), am_cl (by omega), b_X6_book_199, nI_1, aw_ds, if_pos g]
    · rw [am_bI_f (fun z => g ((b_one k (by omega) _).mp z)), if_pos rfl, b_X6_book_202, nI_1, Int32.add_zero, aw_ds, if_neg g]
theorem op_book (X : AMx) (a b c : Int32) : am_OP X 77 150 [.int a, .int b, .int c] := by
  intro R Z A Y hI
  by_cases h1 : 0 ≤ a ∧ a ≤ 9999
  · by_cases h2 : 1 ≤ b ∧ b ≤ 99
    · by_cases h3 : 0 ≤ c ∧ c ≤ 2
      · have h2' : 0 ≤ b ∧ b ≤ 99 := ⟨Int32.le_trans (by decide) h2.1, h2.2⟩
        obtain ⟨x, hx, rfl⟩ := am_ix h1 (n := 10000) (by decide) (by omega)
        obtain ⟨M, hM, rfl⟩ := am_ix h2' (n := 100) (by decide) (by omega)
        obtain ⟨R1, Z1, A1, Y1, hT1, hK1, _, hc1, hm1⟩ := tell_start X hI
        obtain ⟨f', R', Z', A', Y', hT, hK, hc2, hm2⟩ := l_book X hM (nI x) c M 0 x 0 R1 Z1 A1 Y1 none none none (by omega) (by omega) (by omega) hT1
        have hKK := am_kp_trans hK1 hK
        obtain ⟨l4, l5, w6, w7, hm3⟩ := hm2 R' Z'
        rw [show nI 0 = (0 : Int32) from rfl] at hc2 hm3
        have v1 : Z' 8 = Y' 0 ∧ am_rn (Z' 8) 0 127 := am_V1 hT.1
        have v2 : Z' 9 = A' 1 30 ∧ am_rn (Z' 9) 0 255 := am_V2 hT.1
        have v9 : ∀ i, i < 7 → R' 11 i = A' 1 (7 + i) ∧ am_rn (R' 11 i) 0 9 := am_V9 hT.1
        have hb := s_bitCount12 X (am_WH R' Z' A Y) (x := Z' 9) (am_rnw v2.2 (Int.le_refl _) (by omega))
        have hds : aw_ds (Z' 8) (R' 11) 7 = aw_ds (Y' 0) (fun k => A' 1 (7 + k)) 7 := by
          rw [v1.1]
          exact aw_ds_cong (fun k hk => (v9 k hk).1)
        refine ⟨.int (if c = 0 then nI (fb_ct (bt (Z' 9)) 12) else if c = 1 then Z' 34 else aw_ds (Z' 8) (R' 11) 7), R', Z', A', Y', ?_, ?_, am_kp_INV hKK hI⟩
        · rw [d_X5_book, b_X5_book_0, s_isIn, am_C_v, am_bI_t h1, b_X5_book_8, if_neg (by decide), b_X5_book_11, s_isIn, am_C_v, am_bI_t h2, b_X5_book_18, if_neg (by decide), b_X5_book_21, s_isIn, am_C_v, am_bI_t h3, b_X5_book_27, if_neg (by decide), b_X5_book_33, d_X3_tellBook, b_X3_tellBook_0, hc1, am_C_0, b_X3_tellBook_5, hc2, am_C_0, b_X5_book_46]
          by_cases g1 : c = 0
          · rw [if_pos g1, if_pos g1, b_X5_book_50, hb, am_C_v, b_X5_book_63]
          · rw [if_neg g1, if_neg g1, b_X5_book_64]
            by_cases g2 : c = 1
            · rw [if_pos g2, if_pos g2, b_X5_book_69]
            · rw [if_neg g2, if_neg g2, b_X5_book_79, s_doubtOfAll, am_C_v, b_X5_book_89]
        · rw [d_X6_book, b_X6_book_0, s_in, am_C_v, am_bI_t h1, b_X6_book_8, if_neg (by decide), b_X6_book_11, s_in, am_C_v, am_bI_t h2, b_X6_book_18, if_neg (by decide), b_X6_book_21, s_in, am_C_v, am_bI_t h3, b_X6_book_27, if_neg (by decide), b_X6_book_33, hm1, am_C_0, b_X6_book_37, hm3, l_mdoubt, b_X6_book_212]
          by_cases g1 : c = 0
          · rw [if_pos g1, if_pos g1, b_X6_book_216, if_pos (show am_in (30 : Int32) 32 by decide), show (30 : Int32).toNatClampNeg = 30 from rfl, b_X6_book_223, s_bits, am_C_v, b_X6_book_226, v2.1]
          · rw [if_neg g1, if_neg g1, b_X6_book_229]
            by_cases g2 : c = 1
            · rw [if_pos g2, if_pos g2, b_X6_book_234, hT.2.1, hT.2.2.1]
            · rw [if_neg g2, if_neg g2, b_X6_book_241, hds]
      · refine ⟨.int (-2), R, Z, A, Y, ?_, ?_, hI⟩
        · simp only [d_X5_book, b_X5_book_0, b_X5_book_8, b_X5_book_11, b_X5_book_18, b_X5_book_21, b_X5_book_27, b_X5_book_30, b_X5_book_33, b_X5_book_46, b_X5_book_50, b_X5_book_63, b_X5_book_64, b_X5_book_69, b_X5_book_79, b_X5_book_89, s_isIn, am_C_v, am_C_0, am_ue, if_true, if_false, eq_self, am_10, ite_not, Nat.reduceEqDiff, reduceIte, am_bI_t h1, am_bI_t h2, am_bI_f h3]
        · simp only [d_X6_book, b_X6_book_0, b_X6_book_8, b_X6_book_11, b_X6_book_18, b_X6_book_21, b_X6_book_27, b_X6_book_30, b_X6_book_33, b_X6_book_37, b_X6_book_49, b_X6_book_85, b_X6_book_99, b_X6_book_103, b_X6_book_110, b_X6_book_124, b_X6_book_128, b_X6_book_135, b_X6_book_139, b_X6_book_142, b_X6_book_155, b_X6_book_162, b_X6_book_175, b_X6_book_186, b_X6_book_189, b_X6_book_199, b_X6_book_202, b_X6_book_212, b_X6_book_216, b_X6_book_223, b_X6_book_226, b_X6_book_229, b_X6_book_234, b_X6_book_241, s_in, am_C_v, am_C_0, am_ue, if_true, if_false, eq_self, am_10, ite_not, Nat.reduceEqDiff, reduceIte, am_bI_t h1, am_bI_t h2, am_bI_f h3]
    · refine ⟨.int (-2), R, Z, A, Y, ?_, ?_, hI⟩
      · simp only [d_X5_book, b_X5_book_0, b_X5_book_8, b_X5_book_11, b_X5_book_18, b_X5_book_21, b_X5_book_27, b_X5_book_30, b_X5_book_33, b_X5_book_46, b_X5_book_50, b_X5_book_63, b_X5_book_64, b_X5_book_69, b_X5_book_79, b_X5_book_89, s_isIn, am_C_v, am_C_0, am_ue, if_true, if_false, eq_self, am_10, ite_not, Nat.reduceEqDiff, reduceIte, am_bI_t h1, am_bI_f h2]
      · simp only [d_X6_book, b_X6_book_0, b_X6_book_8, b_X6_book_11, b_X6_book_18, b_X6_book_21, b_X6_book_27, b_X6_book_30, b_X6_book_33, b_X6_book_37, b_X6_book_49, b_X6_book_85, b_X6_book_99, b_X6_book_103, b_X6_book_110, b_X6_book_124, b_X6_book_128, b_X6_book_135, b_X6_book_139, b_X6_book_142, b_X6_book_155, b_X6_book_162, b_X6_book_175, b_X6_book_186, b_X6_book_189, b_X6_book_199, b_X6_book_202, b_X6_book_212, b_X6_book_216, b_X6_book_223, b_X6_book_226, b_X6_book_229, b_X6_book_234, b_X6_book_241, s_in, am_C_v, am_C_0, am_ue, if_true, if_false, eq_self, am_10, ite_not, Nat.reduceEqDiff, reduceIte, am_bI_t h1, am_bI_f h2]
  · refine ⟨.int (-2), R, Z, A, Y, ?_, ?_, hI⟩
    · simp only [d_X5_book, b_X5_book_0, b_X5_book_8, b_X5_book_11, b_X5_book_18, b_X5_book_21, b_X5_book_27, b_X5_book_30, b_X5_book_33, b_X5_book_46, b_X5_book_50, b_X5_book_63, b_X5_book_64, b_X5_book_69, b_X5_book_79, b_X5_book_89, s_isIn, am_C_v, am_C_0, am_ue, if_true, if_false, eq_self, am_10, ite_not, Nat.reduceEqDiff, reduceIte, am_bI_f h1]
    · simp only [d_X6_book, b_X6_book_0, b_X6_book_8, b_X6_book_11, b_X6_book_18, b_X6_book_21, b_X6_book_27, b_X6_book_30, b_X6_book_33, b_X6_book_37, b_X6_book_49, b_X6_book_85, b_X6_book_99, b_X6_book_103, b_X6_book_110, b_X6_book_124, b_X6_book_128, b_X6_book_135, b_X6_book_139, b_X6_book_142, b_X6_book_155, b_X6_book_162, b_X6_book_175, b_X6_book_186, b_X6_book_189, b_X6_book_199, b_X6_book_202, b_X6_book_212, b_X6_book_216, b_X6_book_223, b_X6_book_226, b_X6_book_229, b_X6_book_234, b_X6_book_241, s_in, am_C_v, am_C_0, am_ue, if_true, if_false, eq_self, am_10, ite_not, Nat.reduceEqDiff, reduceIte, am_bI_f h1]
