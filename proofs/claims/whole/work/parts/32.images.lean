/-! image, restore. -/
/-- a row written into another one -/
def aw_bl (g : Nat → Int32) (b : Nat) (f : Nat → Int32) (k : Nat) : Nat → Int32 := fun j => if b ≤ j ∧ j < b + k then f (j - b) else g j
theorem aw_bl_0 (g : Nat → Int32) (b : Nat) (f : Nat → Int32) : aw_bl g b f 0 = g := by
  funext j
  unfold aw_bl
  rw [if_neg (by omega)]
theorem aw_bl_s (g : Nat → Int32) (b : Nat) (f : Nat → Int32) (k : Nat) : upd (aw_bl g b f k) (b + k) (f k) = aw_bl g b f (k + 1) := by
  funext j
  by_cases e : j = b + k
  · subst e
    rw [upd_s]
    unfold aw_bl
    rw [if_pos (by omega), Nat.add_sub_cancel_left]
  · rw [upd_n _ _ e]
    unfold aw_bl
    by_cases h : b ≤ j ∧ j < b + k
    · rw [if_pos h, if_pos (by omega)]
    · rw [if_neg h, if_neg (by omega)]
theorem aw_bl_u (g : Nat → Int32) {b p : Nat} (f : Nat → Int32) {k : Nat} (x : Int32) (h : p < b ∨ b + k ≤ p) : upd (aw_bl g b f k) p x = aw_bl (upd g p x) b f k := by
  funext j
  by_cases e : j = p
  · subst e
    rw [upd_s]
    unfold aw_bl
    rw [if_neg (by omega), upd_s]
  · rw [upd_n _ _ e]
    unfold aw_bl
    rw [upd_n _ _ e]
theorem aw_bl_i (g : Nat → Int32) {b : Nat} (f : Nat → Int32) {k j : Nat} (h : j < k) : aw_bl g b f k (b + j) = f j := by
  unfold aw_bl
  rw [if_pos (by omega), Nat.add_sub_cancel_left]
theorem aw_bl_o (g : Nat → Int32) {b : Nat} (f : Nat → Int32) {k j : Nat} (h : j < b ∨ b + k ≤ j) : aw_bl g b f k j = g j := by
  unfold aw_bl
  rw [if_neg (by omega)]
/-- the loops of image -/
theorem l_img19 (X : AMx) (R : Nat → Nat → Int32) (Z : Nat → Int32) (A : Nat → Nat → Int32) (Y : Nat → Int32) (g : Nat → Int32) {n : Nat} (hn : n < 2) (l1 : Int32) : am_E X AM_X6_image 19 [some (.ref 88), some (.int l1), some (.int (nI (110 * n))), some (.int 0)] [] (am_WH R Z (am_up A 12 g) Y) = am_E X AM_X6_image 45 [some (.ref 88), some (.int l1), some (.int (nI (110 * n))), some (.int (nI 32))] [] (am_WH R Z (am_up A 12 (aw_bl g (110 * n + 0) (A 0) 32)) Y) := by
  have k := am_loop (E := fun k => am_E X AM_X6_image 19 [some (.ref 88), some (.int l1), some (.int (nI (110 * n))), some (.int (nI k))] [] (am_WH R Z (am_up A 12 (aw_bl g (110 * n + 0) (A 0) k)) Y)) (r := am_E X AM_X6_image 45 [some (.ref 88), some (.int l1), some (.int (nI (110 * n))), some (.int (nI 32))] [] (am_WH R Z (am_up A 12 (aw_bl g (110 * n + 0) (A 0) 32)) Y)) 32 (by
    try dsimp only
    rw [b_X6_image_19, if_pos (show (32 : Int32) ≤ nI 32 by decide)]) (by
    intro k hk
    try dsimp only
    rw [b_X6_image_19, if_neg (show ¬ (32 : Int32) ≤ nI k from nI_ge (a := k) (b := 32) (by omega) (by omega)), b_X6_image_25, if_pos (am_in_nI hk (by omega)), am_cl (by omega), am_up_n A _ (show (0 : Nat) ≠ 12 by omega)]
    try rw [show (0 : Int32) = nI 0 from rfl, nI_add (110 * n)]
    rw [nI_add, b_X6_image_38, if_pos (am_in_nI (by omega) (by omega)), am_cl (by omega), am_up_s, am_uu, b_X6_image_39, nI_1]
    first
    | rw [aw_bl_s]
    | (rw [show 110 * n + k = 110 * n + 0 + k by omega, aw_bl_s]))
  rw [aw_bl_0] at k
  exact k
theorem l_img112 (X : AMx) (R : Nat → Nat → Int32) (Z : Nat → Int32) (A : Nat → Nat → Int32) (Y : Nat → Int32) (g : Nat → Int32) {n : Nat} (hn : n < 2) (l1 : Int32) : am_E X AM_X6_image 112 [some (.ref 88), some (.int l1), some (.int (nI (110 * n))), some (.int 0)] [] (am_WH R Z (am_up A 12 g) Y) = am_E X AM_X6_image 141 [some (.ref 88), some (.int l1), some (.int (nI (110 * n))), some (.int (nI 16))] [] (am_WH R Z (am_up A 12 (aw_bl g (110 * n + 68) (A 7) 16)) Y) := by
  have k := am_loop (E := fun k => am_E X AM_X6_image 112 [some (.ref 88), some (.int l1), some (.int (nI (110 * n))), some (.int (nI k))] [] (am_WH R Z (am_up A 12 (aw_bl g (110 * n + 68) (A 7) k)) Y)) (r := am_E X AM_X6_image 141 [some (.ref 88), some (.int l1), some (.int (nI (110 * n))), some (.int (nI 16))] [] (am_WH R Z (am_up A 12 (aw_bl g (110 * n + 68) (A 7) 16)) Y)) 16 (by
    try dsimp only
    rw [b_X6_image_112, if_pos (show (16 : Int32) ≤ nI 16 by decide)]) (by
    intro k hk
    try dsimp only
    rw [b_X6_image_112, if_neg (show ¬ (16 : Int32) ≤ nI k from nI_ge (a := k) (b := 16) (by omega) (by omega)), b_X6_image_118, if_pos (am_in_nI hk (by omega)), am_cl (by omega), am_up_n A _ (show (7 : Nat) ≠ 12 by omega)]
    try rw [show (68 : Int32) = nI 68 from rfl, nI_add (110 * n)]
    rw [nI_add, b_X6_image_134, if_pos (am_in_nI (by omega) (by omega)), am_cl (by omega), am_up_s, am_uu, b_X6_image_135, nI_1]
    first
    | rw [aw_bl_s]
    | (rw [show 110 * n + k = 110 * n + 0 + k by omega, aw_bl_s]))
  rw [aw_bl_0] at k
  exact k
theorem l_img143 (X : AMx) (R : Nat → Nat → Int32) (Z : Nat → Int32) (A : Nat → Nat → Int32) (Y : Nat → Int32) (g : Nat → Int32) {n : Nat} (hn : n < 2) (l1 : Int32) : am_E X AM_X6_image 143 [some (.ref 88), some (.int l1), some (.int (nI (110 * n))), some (.int 0)] [] (am_WH R Z (am_up A 12 g) Y) = am_E X AM_X6_image 172 [some (.ref 88), some (.int l1), some (.int (nI (110 * n))), some (.int (nI 7))] [] (am_WH R Z (am_up A 12 (aw_bl g (110 * n + 84) (A 3) 7)) Y) := by
  have k := am_loop (E := fun k => am_E X AM_X6_image 143 [some (.ref 88), some (.int l1), some (.int (nI (110 * n))), some (.int (nI k))] [] (am_WH R Z (am_up A 12 (aw_bl g (110 * n + 84) (A 3) k)) Y)) (r := am_E X AM_X6_image 172 [some (.ref 88), some (.int l1), some (.int (nI (110 * n))), some (.int (nI 7))] [] (am_WH R Z (am_up A 12 (aw_bl g (110 * n + 84) (A 3) 7)) Y)) 7 (by
    try dsimp only
    rw [b_X6_image_143, if_pos (show (7 : Int32) ≤ nI 7 by decide)]) (by
    intro k hk
    try dsimp only
    rw [b_X6_image_143, if_neg (show ¬ (7 : Int32) ≤ nI k from nI_ge (a := k) (b := 7) (by omega) (by omega)), b_X6_image_149, if_pos (am_in_nI hk (by omega)), am_cl (by omega), am_up_n A _ (show (3 : Nat) ≠ 12 by omega)]
    try rw [show (84 : Int32) = nI 84 from rfl, nI_add (110 * n)]
    rw [nI_add, b_X6_image_165, if_pos (am_in_nI (by omega) (by omega)), am_cl (by omega), am_up_s, am_uu, b_X6_image_166, nI_1]
    first
    | rw [aw_bl_s]
    | (rw [show 110 * n + k = 110 * n + 0 + k by omega, aw_bl_s]))
  rw [aw_bl_0] at k
  exact k
theorem l_img174 (X : AMx) (R : Nat → Nat → Int32) (Z : Nat → Int32) (A : Nat → Nat → Int32) (Y : Nat → Int32) (g : Nat → Int32) {n : Nat} (hn : n < 2) (l1 : Int32) : am_E X AM_X6_image 174 [some (.ref 88), some (.int l1), some (.int (nI (110 * n))), some (.int 0)] [] (am_WH R Z (am_up A 12 g) Y) = am_E X AM_X6_image 202 [some (.ref 88), some (.int l1), some (.int (nI (110 * n))), some (.int (nI 3))] [] (am_WH R Z (am_up A 12 (aw_bl g (110 * n + 91) (A 2) 3)) Y) := by
  have k := am_loop (E := fun k => am_E X AM_X6_image 174 [some (.ref 88), some (.int l1), some (.int (nI (110 * n))), some (.int (nI k))] [] (am_WH R Z (am_up A 12 (aw_bl g (110 * n + 91) (A 2) k)) Y)) (r := am_E X AM_X6_image 202 [some (.ref 88), some (.int l1), some (.int (nI (110 * n))), some (.int (nI 3))] [] (am_WH R Z (am_up A 12 (aw_bl g (110 * n + 91) (A 2) 3)) Y)) 3 (by
    try dsimp only
    rw [b_X6_image_174, if_pos (show (3 : Int32) ≤ nI 3 by decide)]) (by
    intro k hk
    try dsimp only
    rw [b_X6_image_174, if_neg (show ¬ (3 : Int32) ≤ nI k from nI_ge (a := k) (b := 3) (by omega) (by omega)), b_X6_image_179, if_pos (am_in_nI hk (by omega)), am_cl (by omega), am_up_n A _ (show (2 : Nat) ≠ 12 by omega)]
    try rw [show (91 : Int32) = nI 91 from rfl, nI_add (110 * n)]
    rw [nI_add, b_X6_image_195, if_pos (am_in_nI (by omega) (by omega)), am_cl (by omega), am_up_s, am_uu, b_X6_image_196, nI_1]
    first
    | rw [aw_bl_s]
    | (rw [show 110 * n + k = 110 * n + 0 + k by omega, aw_bl_s]))
  rw [aw_bl_0] at k
  exact k
theorem l_img47 (X : AMx) (R : Nat → Nat → Int32) (Z : Nat → Int32) (A : Nat → Nat → Int32) (Y : Nat → Int32) (g : Nat → Int32) {n : Nat} (hn : n < 2) (l1 : Int32) : am_E X AM_X6_image 47 [some (.ref 88), some (.int l1), some (.int (nI (110 * n))), some (.int 0)] [] (am_WH R Z (am_up A 12 g) Y) = am_E X AM_X6_image 110 [some (.ref 88), some (.int l1), some (.int (nI (110 * n))), some (.int (nI 12))] [] (am_WH R Z (am_up A 12 (aw_bl (aw_bl (aw_bl g (110 * n + 32) (A 4) 12) (110 * n + 44) (A 5) 12) (110 * n + 56) (A 6) 12)) Y) := by
  have k := am_loop (E := fun k => am_E X AM_X6_image 47 [some (.ref 88), some (.int l1), some (.int (nI (110 * n))), some (.int (nI k))] [] (am_WH R Z (am_up A 12 (aw_bl (aw_bl (aw_bl g (110 * n + 32) (A 4) k) (110 * n + 44) (A 5) k) (110 * n + 56) (A 6) k)) Y)) (r := am_E X AM_X6_image 110 [some (.ref 88), some (.int l1), some (.int (nI (110 * n))), some (.int (nI 12))] [] (am_WH R Z (am_up A 12 (aw_bl (aw_bl (aw_bl g (110 * n + 32) (A 4) 12) (110 * n + 44) (A 5) 12) (110 * n + 56) (A 6) 12)) Y)) 12 (by
    try dsimp only
    rw [b_X6_image_47, if_pos (show (12 : Int32) ≤ nI 12 by decide)]) (by
    intro k hk
    try dsimp only
    rw [b_X6_image_47, if_neg (show ¬ (12 : Int32) ≤ nI k from nI_ge (a := k) (b := 12) (by omega) (by omega)), b_X6_image_53, if_pos (am_in_nI hk (by omega)), am_cl (by omega), am_up_n A _ (show (4 : Nat) ≠ 12 by omega), show (32 : Int32) = nI 32 from rfl, nI_add (110 * n), nI_add, b_X6_image_69, if_pos (am_in_nI (by omega) (by omega)), am_cl (by omega), am_up_s, am_uu, b_X6_image_70, if_pos (am_in_nI hk (by omega)), am_cl (by omega), am_up_n A _ (show (5 : Nat) ≠ 12 by omega), show (44 : Int32) = nI 44 from rfl, nI_add (110 * n), nI_add, b_X6_image_86, if_pos (am_in_nI (by omega) (by omega)), am_cl (by omega), am_up_s, am_uu, b_X6_image_87, if_pos (am_in_nI hk (by omega)), am_cl (by omega), am_up_n A _ (show (6 : Nat) ≠ 12 by omega), show (56 : Int32) = nI 56 from rfl, nI_add (110 * n), nI_add, b_X6_image_103, if_pos (am_in_nI (by omega) (by omega)), am_cl (by omega), am_up_s, am_uu, b_X6_image_104, nI_1, aw_bl_u (b := 110 * n + 56) _ _ _ (by omega), aw_bl_u (b := 110 * n + 44) _ _ _ (by omega), aw_bl_s, aw_bl_u (b := 110 * n + 56) _ _ _ (by omega), aw_bl_s, aw_bl_s])
  rw [aw_bl_0, aw_bl_0, aw_bl_0] at k
  exact k
/-- what the reference writes down -/
theorem s_mimage (X : AMx) (A : Nat → Nat → Int32) (Y : Nat → Int32) {n : Nat} (hn : n < 2) : ∃ g : Nat → Int32, (∀ j, j < 110 * n ∨ 110 * n + 110 ≤ j → g j = A 12 j) ∧ (∀ k, k < 32 → g (110 * n + k) = A 0 k) ∧ (∀ k, k < 3 → g (110 * n + 91 + k) = A 2 k) ∧ (∀ k, k < 7 → g (110 * n + 84 + k) = A 3 k) ∧ (∀ k, k < 12 → g (110 * n + 32 + k) = A 4 k) ∧ (∀ k, k < 12 → g (110 * n + 44 + k) = A 5 k) ∧ (∀ k, k < 12 → g (110 * n + 56 + k) = A 6 k) ∧ (∀ k, k < 16 → g (110 * n + 68 + k) = A 7 k) ∧ g (110 * n + 101) = Y 1 ∧ g (110 * n + 100) = Y 0 ∧ g (110 * n + 102) = Y 2 ∧ g (110 * n + 103) = Y 3 ∧ ∀ (R : Nat → Nat → Int32) (Z : Nat → Int32), am_D X 151 [.ref 88, .int (nI n)] (am_WH R Z A Y) = some (some (.int 1), am_WH R Z (am_up (am_up A 12 g) 13 (upd (A 13) n 1)) Y) := by
  obtain ⟨g1, e1⟩ : ∃ g1, g1 = aw_bl (A 12) (110 * n + 0) (A 0) 32 := ⟨_, rfl⟩
  obtain ⟨g2, e2⟩ : ∃ g2, g2 = aw_bl (aw_bl (aw_bl g1 (110 * n + 32) (A 4) 12) (110 * n + 44) (A 5) 12) (110 * n + 56) (A 6) 12 := ⟨_, rfl⟩
  obtain ⟨g3, e3⟩ : ∃ g3, g3 = aw_bl (aw_bl (aw_bl g2 (110 * n + 68) (A 7) 16) (110 * n + 84) (A 3) 7) (110 * n + 91) (A 2) 3 := ⟨_, rfl⟩
  have f3 : ∀ j, j < 110 * n + 68 ∨ 110 * n + 94 ≤ j → g3 j = g2 j := fun j hj => by rw [e3, aw_bl_o _ _ (by omega), aw_bl_o _ _ (by omega), aw_bl_o _ _ (by omega)]
  have f2 : ∀ j, j < 110 * n + 32 ∨ 110 * n + 68 ≤ j → g2 j = g1 j := fun j hj => by rw [e2, aw_bl_o _ _ (by omega), aw_bl_o _ _ (by omega), aw_bl_o _ _ (by omega)]
  have f1 : ∀ j, j < 110 * n ∨ 110 * n + 32 ≤ j → g1 j = A 12 j := fun j hj => by rw [e1, aw_bl_o _ _ (by omega)]
  have up : ∀ j, j < 110 * n + 100 ∨ 110 * n + 104 ≤ j → upd (upd (upd (upd g3 (110 * n + 100) (Y 0)) (110 * n + 101) (Y 1)) (110 * n + 102) (Y 2)) (110 * n + 103) (Y 3) j = g3 j := fun j hj => by rw [upd_n _ _ (by omega), upd_n _ _ (by omega), upd_n _ _ (by omega), upd_n _ _ (by omega)]
  refine ⟨upd (upd (upd (upd g3 (110 * n + 100) (Y 0)) (110 * n + 101) (Y 1)) (110 * n + 102) (Y 2)) (110 * n + 103) (Y 3), fun j hj => ?_, fun k hk => ?_, fun k hk => ?_, fun k hk => ?_, fun k hk => ?_, fun k hk => ?_, fun k hk => ?_, fun k hk => ?_, ?_, ?_, ?_, ?_, fun R Z => ?_⟩
  · rw [up j (by omega), f3 j (by omega), f2 j (by omega), f1 j (by omega)]
  · rw [up _ (by omega), f3 _ (by omega), f2 _ (by omega), e1]
    exact aw_bl_i (b := 110 * n + 0) _ _ hk
  · rw [up _ (by omega), e3, aw_bl_i _ _ hk]
  · rw [up _ (by omega), e3, aw_bl_o _ _ (by omega), aw_bl_i _ _ hk]
  · rw [up _ (by omega), f3 _ (by omega), e2, aw_bl_o _ _ (by omega), aw_bl_o _ _ (by omega), aw_bl_i _ _ hk]
  · rw [up _ (by omega), f3 _ (by omega), e2, aw_bl_o _ _ (by omega), aw_bl_i _ _ hk]
  · rw [up _ (by omega), f3 _ (by omega), e2, aw_bl_i _ _ hk]
  · rw [up _ (by omega), e3, aw_bl_o _ _ (by omega), aw_bl_o _ _ (by omega), aw_bl_i _ _ hk]
  · rw [upd_n _ _ (by omega), upd_n _ _ (by omega), upd_s]
  · rw [upd_n _ _ (by omega), upd_n _ _ (by omega), upd_n _ _ (by omega), upd_s]
  · rw [upd_n _ _ (by omega), upd_s]
  · rw [upd_s]
  · have hin : 0 ≤ nI n ∧ nI n ≤ 1 := ⟨nI_pos' (by omega), (nI_leI (a := n) (b := 1) (by omega) (by omega)).mpr (by omega)⟩
    have i0 := l_img19 X R Z A Y (A 12) hn (nI n)
    rw [am_up_self, ← e1] at i0
    have i1 := l_img47 X R Z A Y g1 hn (nI n)
    rw [← e2] at i1
    have i2 := l_img112 X R Z A Y g2 hn (nI n)
    have i3 := l_img143 X R Z A Y (aw_bl g2 (110 * n + 68) (A 7) 16) hn (nI n)
    have i4 := l_img174 X R Z A Y (aw_bl (aw_bl g2 (110 * n + 68) (A 7) 16) (110 * n + 84) (A 3) 7) hn (nI n)
    rw [← e3] at i4
    rw [d_X6_image, b_X6_image_0, s_in, am_C_v, am_bI_t hin, b_X6_image_6, if_neg (by decide), b_X6_image_12, show (110 : Int32) = nI 110 from rfl, pk_mul, i0, b_X6_image_45, i1, b_X6_image_110, i2, b_X6_image_141, i3, b_X6_image_172, i4, b_X6_image_202, show (100 : Int32) = nI 100 from rfl, nI_add, if_pos (am_in_nI (by omega) (by omega)), am_cl (by omega), am_up_s, am_uu, b_X6_image_215, show (101 : Int32) = nI 101 from rfl, nI_add, if_pos (am_in_nI (by omega) (by omega)), am_cl (by omega), am_up_s, am_uu, b_X6_image_228, show (102 : Int32) = nI 102 from rfl, nI_add, if_pos (am_in_nI (by omega) (by omega)), am_cl (by omega), am_up_s, am_uu, b_X6_image_241, show (103 : Int32) = nI 103 from rfl, nI_add, if_pos (am_in_nI (by omega) (by omega)), am_cl (by omega), am_up_s, am_uu, b_X6_image_254, if_pos (am_in_nI (by omega) (by omega)), am_cl (by omega), am_up_n A _ (show (13 : Nat) ≠ 12 by omega), show vp_nar .boolean 1 = 1 by decide, b_X6_image_261]
theorem am_img_in {R' : Nat → Nat → Int32} {Z' : Nat → Int32} {A' : Nat → Nat → Int32} {n : Nat} {r : Nat → Nat → Int32} {z : Nat → Int32} {bk dn kn fr to sl sg : Nat → Int32} {be th st si : Int32} (h13 : A' 13 n = 1) (h37 : bt (Z' 37) n = true) (hr : ∀ j i, i < am_ln j → R' (18 + 9 * n + j) i = r j i) (hz : ∀ j, j < 7 → Z' (14 + 7 * n + j) = z j) (h1 : ∀ k, k < 32 → A' 12 (110 * n + k) = bk k) (h2 : ∀ k, k < 3 → A' 12 (110 * n + 91 + k) = dn k) (h3 : ∀ k, k < 7 → A' 12 (110 * n + 84 + k) = kn k) (h4 : ∀ k, k < 12 → A' 12 (110 * n + 32 + k) = fr k) (h5 : ∀ k, k < 12 → A' 12 (110 * n + 44 + k) = to k) (h6 : ∀ k, k < 12 → A' 12 (110 * n + 56 + k) = sl k) (h7 : ∀ k, k < 16 → A' 12 (110 * n + 68 + k) = sg k) (e1 : A' 12 (110 * n + 101) = be) (e2 : A' 12 (110 * n + 100) = th) (e3 : A' 12 (110 * n + 102) = st) (e4 : A' 12 (110 * n + 103) = si) (h : ∀ i, am_VR r z bk dn kn fr to sl sg be th st si i) : am_img R' Z' A' n := Or.inr ⟨h13, h37, am_VR_cp (fun j i hi => hr j i hi) (fun j hj => hz j hj) h1 h2 h3 h4 h5 h6 h7 e1 e2 e3 e4 h⟩
theorem op_image (X : AMx) (a : Int32) : am_OP X 78 151 [.int a] := by
  intro R Z A Y hI
  by_cases h1 : 0 ≤ a ∧ a ≤ 1
  · obtain ⟨n, hn, rfl⟩ := am_ix h1 (n := 2) (by decide) (by omega)
    obtain ⟨g, p0, p1, p2, p3, p4, p5, p6, p7, p8, p9, p10, p11, hm⟩ := s_mimage X A Y hn
    obtain ⟨R1, eR⟩ : ∃ R1, R1 = am_cr (18 + 9 * n) 0 R := ⟨_, rfl⟩
    obtain ⟨Z1, eZ⟩ : ∃ Z1, Z1 = am_cz (14 + 7 * n) 0 Z := ⟨_, rfl⟩
    obtain ⟨W, eW⟩ : ∃ W, W = Z 37 ||| ((1 : Int32) <<< (nI n &&& 31)) := ⟨_, rfl⟩
    have oR : ∀ j, j < 18 + 9 * n ∨ 27 + 9 * n ≤ j → R1 j = R j := fun j hj => by rw [eR, am_cr_o R (by omega)]
    have oZ : ∀ j, j < 14 + 7 * n ∨ 21 + 7 * n ≤ j → Z1 j = Z j := fun j hj => by rw [eZ, am_cz_o Z (by omega)]
    have r37 := hI.2.2.1
    have bW : ∀ j, j < 2 → (bt W j = true ↔ (bt (Z 37) j = true ∨ j = n)) := fun j hj => by
      rw [eW, b_or, Bool.or_eq_true, b_bit n (by omega) (by omega), decide_eq_true_eq]
    have hW : am_rn W 0 3 := by
      rw [eW]
      exact b_rn (k := 2) (by omega) (fun j h7 h32 => by
        rw [b_or, b_bit n (by omega) h32, am_rnb r37 (k := 2) (by omega) h7]
        simp; omega)
    have hc : am_D X 78 [.ref 0, .int (nI n)] (am_WH R Z A Y) = some (some (.int 1), am_WH R1 (am_up Z1 37 W) A Y) := by
      have n2 : n = 0 ∨ n = 1 := by omega
      have e37 : Z1 37 = Z 37 := oZ 37 (by omega)
      rcases n2 with rfl | rfl
      · rw [d_X5_image_50, b_X5_image_50_0, s_isIn, am_C_v, am_bI_t h1, b_X5_image_50_6, if_neg (by decide), b_X5_image_50_12, d_X5_imageAt, b_X5_imageAt_0, if_pos (show nI 0 = (0 : Int32) from rfl), b_X5_imageAt_4, am_C_v, b_X5_image_50_17, s_copyFrom_50_1, am_C_0, show am_cr 18 0 R = R1 from eR.symm, show am_cz 14 0 Z = Z1 from eZ.symm, b_X5_image_50_24, e37, ← eW]
      · rw [d_X5_image_69, b_X5_image_69_0, s_isIn, am_C_v, am_bI_t h1, b_X5_image_69_6, if_neg (by decide), b_X5_image_69_12, d_X5_imageAt, b_X5_imageAt_0, if_neg (show ¬ nI 1 = (0 : Int32) by decide), b_X5_imageAt_11, am_C_v, b_X5_image_69_17, s_copyFrom_69_1, am_C_0, show am_cr 27 0 R = R1 from eR.symm, show am_cz 21 0 Z = Z1 from eZ.symm, b_X5_image_69_24, e37, ← eW]
    refine ⟨.int 1, R1, am_up Z1 37 W, am_up (am_up A 12 g) 13 (upd (A 13) n 1), Y, hc, hm _ _, ?_, ?_, ?_⟩
    · exact am_VR_congr (fun j hj => oR j (by omega)) (fun j hj => (am_up_n _ _ (by omega)).trans (oZ j (by omega))) (fun _ _ => rfl) (fun _ _ => rfl) (fun _ _ => rfl) (fun _ _ => rfl) (fun _ _ => rfl) (fun _ _ => rfl) (fun _ _ => rfl) rfl rfl rfl rfl hI.1
    · exact am_inh_PD hI.2.1 ((am_up_n _ _ (by omega)).trans (oZ 28 (by omega))) rfl (oR 36 (by omega)) rfl
    · refine ⟨by rw [am_up_s]; exact hW, fun n' hn' => ?_⟩
      have a12 : am_up (am_up A 12 g) 13 (upd (A 13) n 1) 12 = g := rfl
      have a13 : am_up (am_up A 12 g) 13 (upd (A 13) n 1) 13 = upd (A 13) n 1 := rfl
      have z37 : am_up Z1 37 W 37 = W := am_up_s _ _ _
      by_cases e : n' = n
      · subst e
        refine am_img_in (r := fun j => R j) (z := fun j => Z j) (bk := A 0) (dn := A 2) (kn := A 3) (fr := A 4) (to := A 5) (sl := A 6) (sg := A 7) (be := Y 1) (th := Y 0) (st := Y 2) (si := Y 3) (by rw [a13, upd_s]) (by rw [z37]; exact (bW n' hn').mpr (Or.inr rfl)) (fun j i hi => ?_) (fun j hj => ?_) (fun k hk => by rw [a12]; exact p1 k hk) (fun k hk => by rw [a12]; exact p2 k hk) (fun k hk => by rw [a12]; exact p3 k hk) (fun k hk => by rw [a12]; exact p4 k hk) (fun k hk => by rw [a12]; exact p5 k hk) (fun k hk => by rw [a12]; exact p6 k hk) (fun k hk => by rw [a12]; exact p7 k hk) (by rw [a12]; exact p8) (by rw [a12]; exact p9) (by rw [a12]; exact p10) (by rw [a12]; exact p11) hI.1
        · rw [eR, am_cr_in R j i hi, Nat.zero_add]
        · rw [am_up_n _ _ (by omega), eZ, am_cz_in Z j hj, Nat.zero_add]
      · have g12 : ∀ k, k < 110 → g (110 * n' + k) = A 12 (110 * n' + k) := fun k hk => p0 _ (by omega)
        rcases hI.2.2.2 n' hn' with ⟨q1, q2⟩ | ⟨q1, q2, q3⟩
        · refine Or.inl ⟨by rw [a13, upd_n _ _ e]; exact q1, ?_⟩
          rw [z37]
          cases eb : bt W n' with
          | false => rfl
          | true =>
            rcases (bW n' hn').mp eb with h | h
            · rw [q2] at h; cases h
            · exact absurd h e
        · refine am_img_in (r := fun j => R (18 + 9 * n' + j)) (z := fun j => Z (14 + 7 * n' + j)) (bk := fun k => A 12 (110 * n' + k)) (dn := fun k => A 12 (110 * n' + 91 + k)) (kn := fun k => A 12 (110 * n' + 84 + k)) (fr := fun k => A 12 (110 * n' + 32 + k)) (to := fun k => A 12 (110 * n' + 44 + k)) (sl := fun k => A 12 (110 * n' + 56 + k)) (sg := fun k => A 12 (110 * n' + 68 + k)) (be := A 12 (110 * n' + 101)) (th := A 12 (110 * n' + 100)) (st := A 12 (110 * n' + 102)) (si := A 12 (110 * n' + 103)) (by rw [a13, upd_n _ _ e]; exact q1) (by rw [z37]; exact (bW n' hn').mpr (Or.inl q2)) (fun j i hi => ?_) (fun j hj => ?_) (fun k hk => by rw [a12]; exact g12 k (by omega)) (fun k hk => by rw [a12, Nat.add_assoc]; exact g12 (91 + k) (by omega)) (fun k hk => by rw [a12, Nat.add_assoc]; exact g12 (84 + k) (by omega)) (fun k hk => by rw [a12, Nat.add_assoc]; exact g12 (32 + k) (by omega)) (fun k hk => by rw [a12, Nat.add_assoc]; exact g12 (44 + k) (by omega)) (fun k hk => by rw [a12, Nat.add_assoc]; exact g12 (56 + k) (by omega)) (fun k hk => by rw [a12, Nat.add_assoc]; exact g12 (68 + k) (by omega)) (by rw [a12]; exact g12 101 (by omega)) (by rw [a12]; exact g12 100 (by omega)) (by rw [a12]; exact g12 102 (by omega)) (by rw [a12]; exact g12 103 (by omega)) q3
          · have hj : j < 9 := by
              false_or_by_contra
              have : am_ln j = 0 := by
                obtain ⟨m, rfl⟩ := Nat.exists_eq_add_of_le (show 9 ≤ j by omega)
                rw [Nat.add_comm]
                rfl
              omega
            rw [oR _ (by omega)]
          · rw [am_up_n _ _ (by omega), oZ _ (by omega)]
  · refine ⟨.int (-2), R, Z, A, Y, ?_, ?_, hI⟩
    · rw [d_X5_image_50, b_X5_image_50_0, s_isIn, am_C_v, am_bI_f h1, b_X5_image_50_6, if_pos rfl, b_X5_image_50_9]
    · rw [d_X6_image, b_X6_image_0, s_in, am_C_v, am_bI_f h1, b_X6_image_6, if_pos rfl, b_X6_image_9]
