/-! restore. -/
theorem l_res31 (X : AMx) (R : Nat → Nat → Int32) (Z : Nat → Int32) (A : Nat → Nat → Int32) (Y : Nat → Int32) {n : Nat} (hn : n < 2) (l1 : Int32) : am_E X AM_X6_restore 31 [some (.ref 88), some (.int l1), some (.int (nI (110 * n))), some (.int 0)] [] (am_WH R Z A Y) = am_E X AM_X6_restore 57 [some (.ref 88), some (.int l1), some (.int (nI (110 * n))), some (.int (nI 32))] [] (am_WH R Z (am_up A 0 (am_rc 32 (A 0) (fun k => A 12 (110 * n + 0 + k)))) Y) := by
  have k := am_loop (E := fun k => am_E X AM_X6_restore 31 [some (.ref 88), some (.int l1), some (.int (nI (110 * n))), some (.int (nI k))] [] (am_WH R Z (am_up A 0 (am_rc k (A 0) (fun k => A 12 (110 * n + 0 + k)))) Y)) (r := am_E X AM_X6_restore 57 [some (.ref 88), some (.int l1), some (.int (nI (110 * n))), some (.int (nI 32))] [] (am_WH R Z (am_up A 0 (am_rc 32 (A 0) (fun k => A 12 (110 * n + 0 + k)))) Y)) 32 (by
    try dsimp only
    rw [b_X6_restore_31, if_pos (show (32 : Int32) ≤ nI 32 by decide)]) (by
    intro k hk
    try dsimp only
    have es : upd (am_rc k (A 0) (fun k => A 12 (110 * n + 0 + k))) k (A 12 (110 * n + 0 + k)) = am_rc (k + 1) (A 0) (fun k => A 12 (110 * n + 0 + k)) := am_rc_s k (A 0) (fun k => A 12 (110 * n + 0 + k))
    rw [b_X6_restore_31, if_neg (show ¬ (32 : Int32) ≤ nI k from nI_ge (a := k) (b := 32) (by omega) (by omega)), b_X6_restore_37]
    try rw [show (0 : Int32) = nI 0 from rfl, nI_add (110 * n)]
    rw [nI_add]
    first
    | rw [show 110 * n + 0 + k = 110 * n + 0 + k from rfl, if_pos (am_in_nI (by omega) (by omega)), am_cl (by omega), am_up_n A _ (show (12 : Nat) ≠ 0 by omega), b_X6_restore_50, if_pos (am_in_nI hk (by omega)), am_cl (by omega), am_up_s, am_uu, es, b_X6_restore_51, nI_1]
    | rw [show 110 * n + k = 110 * n + 0 + k by omega, if_pos (am_in_nI (by omega) (by omega)), am_cl (by omega), am_up_n A _ (show (12 : Nat) ≠ 0 by omega), b_X6_restore_50, if_pos (am_in_nI hk (by omega)), am_cl (by omega), am_up_s, am_uu, es, b_X6_restore_51, nI_1])
  rw [am_rc_0, am_up_self] at k
  exact k
theorem l_res124 (X : AMx) (R : Nat → Nat → Int32) (Z : Nat → Int32) (A : Nat → Nat → Int32) (Y : Nat → Int32) {n : Nat} (hn : n < 2) (l1 : Int32) : am_E X AM_X6_restore 124 [some (.ref 88), some (.int l1), some (.int (nI (110 * n))), some (.int 0)] [] (am_WH R Z A Y) = am_E X AM_X6_restore 153 [some (.ref 88), some (.int l1), some (.int (nI (110 * n))), some (.int (nI 16))] [] (am_WH R Z (am_up A 7 (am_rc 16 (A 7) (fun k => A 12 (110 * n + 68 + k)))) Y) := by
  have k := am_loop (E := fun k => am_E X AM_X6_restore 124 [some (.ref 88), some (.int l1), some (.int (nI (110 * n))), some (.int (nI k))] [] (am_WH R Z (am_up A 7 (am_rc k (A 7) (fun k => A 12 (110 * n + 68 + k)))) Y)) (r := am_E X AM_X6_restore 153 [some (.ref 88), some (.int l1), some (.int (nI (110 * n))), some (.int (nI 16))] [] (am_WH R Z (am_up A 7 (am_rc 16 (A 7) (fun k => A 12 (110 * n + 68 + k)))) Y)) 16 (by
    try dsimp only
    rw [b_X6_restore_124, if_pos (show (16 : Int32) ≤ nI 16 by decide)]) (by
    intro k hk
    try dsimp only
    have es : upd (am_rc k (A 7) (fun k => A 12 (110 * n + 68 + k))) k (A 12 (110 * n + 68 + k)) = am_rc (k + 1) (A 7) (fun k => A 12 (110 * n + 68 + k)) := am_rc_s k (A 7) (fun k => A 12 (110 * n + 68 + k))
    rw [b_X6_restore_124, if_neg (show ¬ (16 : Int32) ≤ nI k from nI_ge (a := k) (b := 16) (by omega) (by omega)), b_X6_restore_130]
    try rw [show (68 : Int32) = nI 68 from rfl, nI_add (110 * n)]
    rw [nI_add]
    first
    | rw [show 110 * n + 68 + k = 110 * n + 68 + k from rfl, if_pos (am_in_nI (by omega) (by omega)), am_cl (by omega), am_up_n A _ (show (12 : Nat) ≠ 7 by omega), b_X6_restore_146, if_pos (am_in_nI hk (by omega)), am_cl (by omega), am_up_s, am_uu, es, b_X6_restore_147, nI_1]
    | rw [show 110 * n + k = 110 * n + 68 + k by omega, if_pos (am_in_nI (by omega) (by omega)), am_cl (by omega), am_up_n A _ (show (12 : Nat) ≠ 7 by omega), b_X6_restore_146, if_pos (am_in_nI hk (by omega)), am_cl (by omega), am_up_s, am_uu, es, b_X6_restore_147, nI_1])
  rw [am_rc_0, am_up_self] at k
  exact k
theorem l_res155 (X : AMx) (R : Nat → Nat → Int32) (Z : Nat → Int32) (A : Nat → Nat → Int32) (Y : Nat → Int32) {n : Nat} (hn : n < 2) (l1 : Int32) : am_E X AM_X6_restore 155 [some (.ref 88), some (.int l1), some (.int (nI (110 * n))), some (.int 0)] [] (am_WH R Z A Y) = am_E X AM_X6_restore 184 [some (.ref 88), some (.int l1), some (.int (nI (110 * n))), some (.int (nI 7))] [] (am_WH R Z (am_up A 3 (am_rc 7 (A 3) (fun k => A 12 (110 * n + 84 + k)))) Y) := by
  have k := am_loop (E := fun k => am_E X AM_X6_restore 155 [some (.ref 88), some (.int l1), some (.int (nI (110 * n))), some (.int (nI k))] [] (am_WH R Z (am_up A 3 (am_rc k (A 3) (fun k => A 12 (110 * n + 84 + k)))) Y)) (r := am_E X AM_X6_restore 184 [some (.ref 88), some (.int l1), some (.int (nI (110 * n))), some (.int (nI 7))] [] (am_WH R Z (am_up A 3 (am_rc 7 (A 3) (fun k => A 12 (110 * n + 84 + k)))) Y)) 7 (by
    try dsimp only
    rw [b_X6_restore_155, if_pos (show (7 : Int32) ≤ nI 7 by decide)]) (by
    intro k hk
    try dsimp only
    have es : upd (am_rc k (A 3) (fun k => A 12 (110 * n + 84 + k))) k (A 12 (110 * n + 84 + k)) = am_rc (k + 1) (A 3) (fun k => A 12 (110 * n + 84 + k)) := am_rc_s k (A 3) (fun k => A 12 (110 * n + 84 + k))
    rw [b_X6_restore_155, if_neg (show ¬ (7 : Int32) ≤ nI k from nI_ge (a := k) (b := 7) (by omega) (by omega)), b_X6_restore_161]
    try rw [show (84 : Int32) = nI 84 from rfl, nI_add (110 * n)]
    rw [nI_add]
    first
    | rw [show 110 * n + 84 + k = 110 * n + 84 + k from rfl, if_pos (am_in_nI (by omega) (by omega)), am_cl (by omega), am_up_n A _ (show (12 : Nat) ≠ 3 by omega), b_X6_restore_177, if_pos (am_in_nI hk (by omega)), am_cl (by omega), am_up_s, am_uu, es, b_X6_restore_178, nI_1]
    | rw [show 110 * n + k = 110 * n + 84 + k by omega, if_pos (am_in_nI (by omega) (by omega)), am_cl (by omega), am_up_n A _ (show (12 : Nat) ≠ 3 by omega), b_X6_restore_177, if_pos (am_in_nI hk (by omega)), am_cl (by omega), am_up_s, am_uu, es, b_X6_restore_178, nI_1])
  rw [am_rc_0, am_up_self] at k
  exact k
theorem l_res186 (X : AMx) (R : Nat → Nat → Int32) (Z : Nat → Int32) (A : Nat → Nat → Int32) (Y : Nat → Int32) {n : Nat} (hn : n < 2) (l1 : Int32) : am_E X AM_X6_restore 186 [some (.ref 88), some (.int l1), some (.int (nI (110 * n))), some (.int 0)] [] (am_WH R Z A Y) = am_E X AM_X6_restore 214 [some (.ref 88), some (.int l1), some (.int (nI (110 * n))), some (.int (nI 3))] [] (am_WH R Z (am_up A 2 (am_rc 3 (A 2) (fun k => A 12 (110 * n + 91 + k)))) Y) := by
  have k := am_loop (E := fun k => am_E X AM_X6_restore 186 [some (.ref 88), some (.int l1), some (.int (nI (110 * n))), some (.int (nI k))] [] (am_WH R Z (am_up A 2 (am_rc k (A 2) (fun k => A 12 (110 * n + 91 + k)))) Y)) (r := am_E X AM_X6_restore 214 [some (.ref 88), some (.int l1), some (.int (nI (110 * n))), some (.int (nI 3))] [] (am_WH R Z (am_up A 2 (am_rc 3 (A 2) (fun k => A 12 (110 * n + 91 + k)))) Y)) 3 (by
    try dsimp only
    rw [b_X6_restore_186, if_pos (show (3 : Int32) ≤ nI 3 by decide)]) (by
    intro k hk
    try dsimp only
    have es : upd (am_rc k (A 2) (fun k => A 12 (110 * n + 91 + k))) k (A 12 (110 * n + 91 + k)) = am_rc (k + 1) (A 2) (fun k => A 12 (110 * n + 91 + k)) := am_rc_s k (A 2) (fun k => A 12 (110 * n + 91 + k))
    rw [b_X6_restore_186, if_neg (show ¬ (3 : Int32) ≤ nI k from nI_ge (a := k) (b := 3) (by omega) (by omega)), b_X6_restore_191]
    try rw [show (91 : Int32) = nI 91 from rfl, nI_add (110 * n)]
    rw [nI_add]
    first
    | rw [show 110 * n + 91 + k = 110 * n + 91 + k from rfl, if_pos (am_in_nI (by omega) (by omega)), am_cl (by omega), am_up_n A _ (show (12 : Nat) ≠ 2 by omega), b_X6_restore_207, if_pos (am_in_nI hk (by omega)), am_cl (by omega), am_up_s, am_uu, es, b_X6_restore_208, nI_1]
    | rw [show 110 * n + k = 110 * n + 91 + k by omega, if_pos (am_in_nI (by omega) (by omega)), am_cl (by omega), am_up_n A _ (show (12 : Nat) ≠ 2 by omega), b_X6_restore_207, if_pos (am_in_nI hk (by omega)), am_cl (by omega), am_up_s, am_uu, es, b_X6_restore_208, nI_1])
  rw [am_rc_0, am_up_self] at k
  exact k
theorem l_res59 (X : AMx) (R : Nat → Nat → Int32) (Z : Nat → Int32) (A : Nat → Nat → Int32) (Y : Nat → Int32) {n : Nat} (hn : n < 2) (l1 : Int32) : ∀ d k (B : Nat → Nat → Int32), k + d = 12 → (∀ j, j ≠ 4 → j ≠ 5 → j ≠ 6 → B j = A j) → (∀ j, j < k → B 4 j = A 12 (110 * n + 32 + j) ∧ B 5 j = A 12 (110 * n + 44 + j) ∧ B 6 j = A 12 (110 * n + 56 + j)) → ∃ B' : Nat → Nat → Int32, (∀ j, j ≠ 4 → j ≠ 5 → j ≠ 6 → B' j = A j) ∧ (∀ j, j < 12 → B' 4 j = A 12 (110 * n + 32 + j) ∧ B' 5 j = A 12 (110 * n + 44 + j) ∧ B' 6 j = A 12 (110 * n + 56 + j)) ∧ am_E X AM_X6_restore 59 [some (.ref 88), some (.int l1), some (.int (nI (110 * n))), some (.int (nI k))] [] (am_WH R Z B Y) = am_E X AM_X6_restore 122 [some (.ref 88), some (.int l1), some (.int (nI (110 * n))), some (.int (nI 12))] [] (am_WH R Z B' Y) := by
  intro d
  induction d with
  | zero =>
    intro k B hk h1 h2
    obtain rfl : k = 12 := by omega
    exact ⟨B, h1, h2, by rw [b_X6_restore_59, if_pos (show (12 : Int32) ≤ nI 12 by decide)]⟩
  | succ d ih =>
    intro k B hk h1 h2
    have b12 : B 12 = A 12 := h1 12 (by omega) (by omega) (by omega)
    obtain ⟨x4, e4⟩ : ∃ x, x = A 12 (110 * n + 32 + k) := ⟨_, rfl⟩
    obtain ⟨x5, e5⟩ : ∃ x, x = A 12 (110 * n + 44 + k) := ⟨_, rfl⟩
    obtain ⟨x6, e6⟩ : ∃ x, x = A 12 (110 * n + 56 + k) := ⟨_, rfl⟩
    have step : am_E X AM_X6_restore 59 [some (.ref 88), some (.int l1), some (.int (nI (110 * n))), some (.int (nI k))] [] (am_WH R Z B Y) = am_E X AM_X6_restore 59 [some (.ref 88), some (.int l1), some (.int (nI (110 * n))), some (.int (nI (k + 1)))] [] (am_WH R Z (am_up (am_up (am_up B 4 (upd (B 4) k x4)) 5 (upd (B 5) k x5)) 6 (upd (B 6) k x6)) Y) := by
      rw [b_X6_restore_59, if_neg (show ¬ (12 : Int32) ≤ nI k from nI_ge (a := k) (b := 12) (by omega) (by omega)), b_X6_restore_65, show (32 : Int32) = nI 32 from rfl, nI_add (110 * n), nI_add, if_pos (am_in_nI (by omega) (by omega)), am_cl (by omega), b12, ← e4, b_X6_restore_81, if_pos (am_in_nI (by omega) (by omega)), am_cl (by omega), b_X6_restore_82, show (44 : Int32) = nI 44 from rfl, nI_add (110 * n), nI_add, if_pos (am_in_nI (by omega) (by omega)), am_cl (by omega), am_up_n B _ (show (12 : Nat) ≠ 4 by omega), b12, ← e5, b_X6_restore_98, if_pos (am_in_nI (by omega) (by omega)), am_cl (by omega), am_up_n B _ (show (5 : Nat) ≠ 4 by omega), b_X6_restore_99, show (56 : Int32) = nI 56 from rfl, nI_add (110 * n), nI_add, if_pos (am_in_nI (by omega) (by omega)), am_cl (by omega), am_up_n (am_up B _ _) _ (show (12 : Nat) ≠ 5 by omega), am_up_n B _ (show (12 : Nat) ≠ 4 by omega), b12, ← e6, b_X6_restore_115, if_pos (am_in_nI (by omega) (by omega)), am_cl (by omega), am_up_n (am_up B _ _) _ (show (6 : Nat) ≠ 5 by omega), am_up_n B _ (show (6 : Nat) ≠ 4 by omega), b_X6_restore_116, nI_1]
    have p4 : am_up (am_up (am_up B 4 (upd (B 4) k x4)) 5 (upd (B 5) k x5)) 6 (upd (B 6) k x6) 4 = upd (B 4) k x4 := rfl
    have p5 : am_up (am_up (am_up B 4 (upd (B 4) k x4)) 5 (upd (B 5) k x5)) 6 (upd (B 6) k x6) 5 = upd (B 5) k x5 := rfl
    have p6 : am_up (am_up (am_up B 4 (upd (B 4) k x4)) 5 (upd (B 5) k x5)) 6 (upd (B 6) k x6) 6 = upd (B 6) k x6 := rfl
    rw [step]
    refine ih (k + 1) _ (by omega) (fun j g4 g5 g6 => by rw [am_up_n _ _ g6, am_up_n _ _ g5, am_up_n _ _ g4]; exact h1 j g4 g5 g6) (fun j hj => ?_)
    rw [p4, p5, p6]
    by_cases e : j = k
    · subst e
      rw [upd_s, upd_s, upd_s]
      exact ⟨e4, e5, e6⟩
    · rw [upd_n _ _ e, upd_n _ _ e, upd_n _ _ e]
      exact h2 j (by omega)
/-- what the reference takes back -/
theorem s_mrestore (X : AMx) (A : Nat → Nat → Int32) (Y : Nat → Int32) {n : Nat} (hn : n < 2) (h13 : ¬ A 13 n = 0) (R : Nat → Nat → Int32) (Z : Nat → Int32) : ∃ (A' : Nat → Nat → Int32) (Y' : Nat → Int32), (∀ j, (j = 1 ∨ 8 ≤ j) → A' j = A j) ∧ (∀ j, 4 ≤ j → Y' j = Y j) ∧ (∀ k, k < 32 → A' 0 k = A 12 (110 * n + k)) ∧ (∀ k, k < 3 → A' 2 k = A 12 (110 * n + 91 + k)) ∧ (∀ k, k < 7 → A' 3 k = A 12 (110 * n + 84 + k)) ∧ (∀ k, k < 12 → A' 4 k = A 12 (110 * n + 32 + k)) ∧ (∀ k, k < 12 → A' 5 k = A 12 (110 * n + 44 + k)) ∧ (∀ k, k < 12 → A' 6 k = A 12 (110 * n + 56 + k)) ∧ (∀ k, k < 16 → A' 7 k = A 12 (110 * n + 68 + k)) ∧ Y' 1 = A 12 (110 * n + 101) ∧ Y' 0 = A 12 (110 * n + 100) ∧ Y' 2 = A 12 (110 * n + 102) ∧ Y' 3 = A 12 (110 * n + 103) ∧ am_D X 152 [.ref 88, .int (nI n)] (am_WH R Z A Y) = some (some (.int 1), am_WH R Z A' Y') := by
  obtain ⟨A1, e1⟩ : ∃ A1, A1 = am_up A 0 (am_rc 32 (A 0) (fun k => A 12 (110 * n + 0 + k))) := ⟨_, rfl⟩
  have f1 : ∀ j, j ≠ 0 → A1 j = A j := fun j hj => by rw [e1]; exact am_up_n _ _ hj
  have i1 := l_res31 X R Z A Y hn (nI n)
  rw [← e1] at i1
  obtain ⟨B, hB1, hB2, i2⟩ := l_res59 X R Z A1 Y hn (nI n) 12 0 A1 (by omega) (fun _ _ _ _ => rfl) (fun j hj => absurd hj (Nat.not_lt_zero j))
  have fB : ∀ j, j ≠ 0 → j ≠ 4 → j ≠ 5 → j ≠ 6 → B j = A j := fun j g0 g4 g5 g6 => (hB1 j g4 g5 g6).trans (f1 j g0)
  have a12 : A1 12 = A 12 := f1 12 (by omega)
  have b12 : B 12 = A 12 := fB 12 (by omega) (by omega) (by omega) (by omega)
  have i3 := l_res124 X R Z B Y hn (nI n)
  obtain ⟨C, eC⟩ : ∃ C, C = am_up B 7 (am_rc 16 (B 7) (fun k => B 12 (110 * n + 68 + k))) := ⟨_, rfl⟩
  rw [← eC] at i3
  have i4 := l_res155 X R Z C Y hn (nI n)
  obtain ⟨D, eD⟩ : ∃ D, D = am_up C 3 (am_rc 7 (C 3) (fun k => C 12 (110 * n + 84 + k))) := ⟨_, rfl⟩
  rw [← eD] at i4
  have i5 := l_res186 X R Z D Y hn (nI n)
  obtain ⟨E, eE⟩ : ∃ E, E = am_up D 2 (am_rc 3 (D 2) (fun k => D 12 (110 * n + 91 + k))) := ⟨_, rfl⟩
  rw [← eE] at i5
  have c12 : C 12 = A 12 := by rw [eC, am_up_n _ _ (by omega), b12]
  have d12 : D 12 = A 12 := by rw [eD, am_up_n _ _ (by omega), c12]
  have x12 : E 12 = A 12 := by rw [eE, am_up_n _ _ (by omega), d12]
  have hin : 0 ≤ nI n ∧ nI n ≤ 1 := ⟨nI_pos' (by omega), (nI_leI (a := n) (b := 1) (by omega) (by omega)).mpr (by omega)⟩
  refine ⟨E, am_up (am_up (am_up (am_up Y 0 (A 12 (110 * n + 100))) 1 (A 12 (110 * n + 101))) 2 (A 12 (110 * n + 102))) 3 (A 12 (110 * n + 103)), fun j hj => ?_, fun j hj => by rw [am_up_n _ _ (by omega), am_up_n _ _ (by omega), am_up_n _ _ (by omega), am_up_n _ _ (by omega)], fun k hk => ?_, fun k hk => ?_, fun k hk => ?_, fun k hk => ?_, fun k hk => ?_, fun k hk => ?_, fun k hk => ?_, rfl, rfl, rfl, rfl, ?_⟩
  · rw [eE, am_up_n _ _ (by omega), eD, am_up_n _ _ (by omega), eC, am_up_n _ _ (by omega)]
    exact fB j (by omega) (by omega) (by omega) (by omega)
  · rw [eE, am_up_n _ _ (by omega), eD, am_up_n _ _ (by omega), eC, am_up_n _ _ (by omega), hB1 0 (by omega) (by omega) (by omega), e1, am_up_s]
    unfold am_rc
    rw [if_pos hk, Nat.add_zero]
  · rw [eE, am_up_s]
    unfold am_rc
    rw [if_pos hk, d12]
  · rw [eE, am_up_n _ _ (by omega), eD, am_up_s]
    unfold am_rc
    rw [if_pos hk, c12]
  · rw [eE, am_up_n _ _ (by omega), eD, am_up_n _ _ (by omega), eC, am_up_n _ _ (by omega), (hB2 k hk).1, a12]
  · rw [eE, am_up_n _ _ (by omega), eD, am_up_n _ _ (by omega), eC, am_up_n _ _ (by omega), (hB2 k hk).2.1, a12]
  · rw [eE, am_up_n _ _ (by omega), eD, am_up_n _ _ (by omega), eC, am_up_n _ _ (by omega), (hB2 k hk).2.2, a12]
  · rw [eE, am_up_n _ _ (by omega), eD, am_up_n _ _ (by omega), eC, am_up_s]
    unfold am_rc
    rw [if_pos hk, b12]
  · rw [show nI 0 = (0 : Int32) from rfl] at i2
    rw [d_X6_restore, b_X6_restore_0, s_in, am_C_v, am_bI_t hin, b_X6_restore_6, if_neg (by decide), b_X6_restore_12, if_pos (am_in_nI (by omega) (by omega)), am_cl (by omega), b_X6_restore_18, if_neg h13, b_X6_restore_24, show (110 : Int32) = nI 110 from rfl, pk_mul, i1, b_X6_restore_57, i2, b_X6_restore_122, i3, b_X6_restore_153, i4, b_X6_restore_184, i5, b_X6_restore_214, show (100 : Int32) = nI 100 from rfl, nI_add, if_pos (am_in_nI (by omega) (by omega)), am_cl (by omega), x12, b_X6_restore_224, show (101 : Int32) = nI 101 from rfl, nI_add, if_pos (am_in_nI (by omega) (by omega)), am_cl (by omega), x12, b_X6_restore_237, show (102 : Int32) = nI 102 from rfl, nI_add, if_pos (am_in_nI (by omega) (by omega)), am_cl (by omega), x12, b_X6_restore_250, show (103 : Int32) = nI 103 from rfl, nI_add, if_pos (am_in_nI (by omega) (by omega)), am_cl (by omega), x12, b_X6_restore_263]
theorem op_restore (X : AMx) (a : Int32) : am_OP X 79 152 [.int a] := by
  intro R Z A Y hI
  by_cases h1 : 0 ≤ a ∧ a ≤ 1
  · obtain ⟨n, hn, rfl⟩ := am_ix h1 (n := 2) (by decide) (by omega)
    rcases hI.2.2.2 n hn with ⟨q1, q2⟩ | ⟨q1, q2, q3⟩
    · have nb : ¬ am_hs (Z 37) (nI n) := fun z => by
        rw [(am_hs_nI (by omega)).mp z] at q2
        cases q2
      refine ⟨.int (-3), R, Z, A, Y, ?_, ?_, hI⟩
      · rw [d_X5_restore_50, b_X5_restore_50_0, s_isIn, am_C_v, am_bI_t h1, b_X5_restore_50_6, if_neg (by decide), b_X5_restore_50_12, s_has, am_C_v, am_bI_f nb, b_X5_restore_50_20, if_pos rfl, b_X5_restore_50_23]
      · rw [d_X6_restore, b_X6_restore_0, s_in, am_C_v, am_bI_t h1, b_X6_restore_6, if_neg (by decide), b_X6_restore_12, if_pos (am_in_nI (by omega) (by omega)), am_cl (by omega), b_X6_restore_18, if_pos q1, b_X6_restore_21]
    · have yb : am_hs (Z 37) (nI n) := (am_hs_nI (by omega)).mpr q2
      obtain ⟨R1, eR⟩ : ∃ R1, R1 = am_cr 0 (18 + 9 * n) R := ⟨_, rfl⟩
      obtain ⟨Z1, eZ⟩ : ∃ Z1, Z1 = am_cz 0 (14 + 7 * n) Z := ⟨_, rfl⟩
      have oR : ∀ j, 9 ≤ j → R1 j = R j := fun j hj => by rw [eR, am_cr_o R (by omega)]
      have oZ : ∀ j, 7 ≤ j → Z1 j = Z j := fun j hj => by rw [eZ, am_cz_o Z (by omega)]
      obtain ⟨A', Y', p0, p0', p1, p2, p3, p4, p5, p6, p7, p8, p9, p10, p11, hm⟩ := s_mrestore X A Y hn (by rw [q1]; decide) R1 Z1
      refine ⟨.int 1, R1, Z1, A', Y', ?_, hm, ?_, ?_, ?_⟩
      · have n2 : n = 0 ∨ n = 1 := by omega
        rcases n2 with rfl | rfl
        · rw [d_X5_restore_50, b_X5_restore_50_0, s_isIn, am_C_v, am_bI_t h1, b_X5_restore_50_6, if_neg (by decide), b_X5_restore_50_12, s_has, am_C_v, am_bI_t yb, b_X5_restore_50_20, if_neg (by decide), b_X5_restore_50_26, d_X5_imageAt, b_X5_imageAt_0, if_pos (show nI 0 = (0 : Int32) from rfl), b_X5_imageAt_4, am_C_v, b_X5_restore_50_35, s_copyFrom_1_50, am_C_0, show am_cr 0 18 R = R1 from eR.symm, show am_cz 0 14 Z = Z1 from eZ.symm, b_X5_restore_50_38]
        · rw [d_X5_restore_69, b_X5_restore_69_0, s_isIn, am_C_v, am_bI_t h1, b_X5_restore_69_6, if_neg (by decide), b_X5_restore_69_12, s_has, am_C_v, am_bI_t yb, b_X5_restore_69_20, if_neg (by decide), b_X5_restore_69_26, d_X5_imageAt, b_X5_imageAt_0, if_neg (show ¬ nI 1 = (0 : Int32) by decide), b_X5_imageAt_11, am_C_v, b_X5_restore_69_35, s_copyFrom_1_69, am_C_0, show am_cr 0 27 R = R1 from eR.symm, show am_cz 0 21 Z = Z1 from eZ.symm, b_X5_restore_69_38]
      · refine am_VR_cp (fun j i hi => ?_) (fun j hj => ?_) p1 p2 p3 p4 p5 p6 p7 p8 p9 p10 p11 q3
        · have q := am_cr_in (d := 0) (s := 18 + 9 * n) R j i hi
          rw [Nat.zero_add] at q
          show R1 j i = _
          rw [eR, q]
        · have q := am_cz_in (d := 0) (s := 14 + 7 * n) Z j hj
          rw [Nat.zero_add] at q
          show Z1 j = _
          rw [eZ, q]
      · exact am_inh_PD hI.2.1 (oZ 28 (by omega)) (p0' 4 (by omega)) (oR 36 (by omega)) (p0 8 (by omega))
      · exact am_IM_congr (fun k h1 h2 => oR k (by omega)) (fun k h1 h2 => oZ k (by omega)) (oZ 37 (by omega)) (p0 12 (by omega)) (p0 13 (by omega)) hI.2.2
  · refine ⟨.int (-2), R, Z, A, Y, ?_, ?_, hI⟩
    · rw [d_X5_restore_50, b_X5_restore_50_0, s_isIn, am_C_v, am_bI_f h1, b_X5_restore_50_6, if_pos rfl, b_X5_restore_50_9]
    · rw [d_X6_restore, b_X6_restore_0, s_in, am_C_v, am_bI_f h1, b_X6_restore_6, if_pos rfl, b_X6_restore_9]
