/-! ways, reach: places so many stairs away. -/
def aw_st (us : Nat → Bool) (fr to : Nat → Nat) (P : Nat → Bool) : Nat → Nat → Bool
  | 0, p => P p
  | s + 1, p => aw_st us fr to P s p || (us s && ((decide (to s = p) && P (fr s)) || (decide (fr s = p) && P (to s))))
theorem aw_st_iff {us : Nat → Bool} {fr to : Nat → Nat} {P : Nat → Bool} : ∀ {n p : Nat}, aw_st us fr to P n p = true ↔ (P p = true ∨ ∃ s, s < n ∧ us s = true ∧ ((to s = p ∧ P (fr s) = true) ∨ (fr s = p ∧ P (to s) = true)))
  | 0, p => by
    show P p = true ↔ _
    constructor
    · exact Or.inl
    · intro h
      rcases h with h | ⟨s, hs, _⟩
      · exact h
      · omega
  | n + 1, p => by
    have ih := @aw_st_iff us fr to P n p
    show (aw_st us fr to P n p || (us n && ((decide (to n = p) && P (fr n)) || (decide (fr n = p) && P (to n))))) = true ↔ _
    rw [Bool.or_eq_true, ih, Bool.and_eq_true, Bool.or_eq_true, Bool.and_eq_true, Bool.and_eq_true, decide_eq_true_eq, decide_eq_true_eq]
    constructor
    · intro h
      rcases h with (h | ⟨s, hs, h⟩) | h
      · exact Or.inl h
      · exact Or.inr ⟨s, by omega, h⟩
      · exact Or.inr ⟨n, by omega, h⟩
    · intro h
      rcases h with h | ⟨s, hs, h⟩
      · exact Or.inl (Or.inl h)
      · rcases Nat.lt_or_ge s n with h2 | h2
        · exact Or.inl (Or.inr ⟨s, h2, h⟩)
        · obtain rfl : s = n := by omega
          exact Or.inr h
/-- the places at most k stairs from t -/
def aw_N (us : Nat → Bool) (fr to : Nat → Nat) (t : Nat) : Nat → Nat → Bool
  | 0, p => decide (p = t)
  | k + 1, p => aw_st us fr to (aw_N us fr to t k) 12 p
theorem aw_N_iff {us : Nat → Bool} {fr to : Nat → Nat} {t k p : Nat} : aw_N us fr to t (k + 1) p = true ↔ (aw_N us fr to t k p = true ∨ ∃ s, s < 12 ∧ us s = true ∧ ((to s = p ∧ aw_N us fr to t k (fr s) = true) ∨ (fr s = p ∧ aw_N us fr to t k (to s) = true))) := aw_st_iff
theorem aw_N_up {us : Nat → Bool} {fr to : Nat → Nat} {t j p : Nat} (h : aw_N us fr to t j p = true) : ∀ d, aw_N us fr to t (j + d) p = true
  | 0 => h
  | d + 1 => aw_N_iff.mpr (Or.inl (aw_N_up h d))
theorem aw_N_le {us : Nat → Bool} {fr to : Nat → Nat} {t j k p : Nat} (hjk : j ≤ k) (h : aw_N us fr to t j p = true) : aw_N us fr to t k p = true := by
  have := aw_N_up h (k - j)
  rwa [Nat.add_sub_cancel' hjk] at this
theorem aw_N_lt {us : Nat → Bool} {fr to : Nat → Nat} (hf : ∀ s, s < 12 → fr s < 10) (ht : ∀ s, s < 12 → to s < 10) {t : Nat} (htt : t < 10) : ∀ {k p : Nat}, aw_N us fr to t k p = true → p < 10
  | 0, p, h => by
    have : p = t := of_decide_eq_true h
    omega
  | k + 1, p, h => by
    rcases aw_N_iff.mp h with h | ⟨s, hs, _, h⟩
    · exact aw_N_lt hf ht htt h
    · rcases h with h | h
      · rw [← h.1]; exact ht s hs
      · rw [← h.1]; exact hf s hs
theorem aw_N_fix {us : Nat → Bool} {fr to : Nat → Nat} (hf : ∀ s, s < 12 → fr s < 10) (ht : ∀ s, s < 12 → to s < 10) {t j : Nat} (h : ∀ p, p < 10 → aw_N us fr to t (j + 1) p = true → aw_N us fr to t j p = true) : ∀ d p, p < 10 → aw_N us fr to t (j + d) p = true → aw_N us fr to t j p = true
  | 0, p, _, hp => hp
  | d + 1, p, h10, hp => by
    have ih := aw_N_fix hf ht h d
    rcases aw_N_iff.mp hp with q | ⟨s, hs, hu, q⟩
    · exact ih p h10 q
    · refine h p h10 (aw_N_iff.mpr (Or.inr ⟨s, hs, hu, ?_⟩))
      rcases q with q | q
      · exact Or.inl ⟨q.1, ih _ (hf s hs) q.2⟩
      · exact Or.inr ⟨q.1, ih _ (ht s hs) q.2⟩
theorem fb_ct_lt {p q : Nat → Bool} {i : Nat} : ∀ {n : Nat}, (∀ k, k < n → p k = true → q k = true) → i < n → p i = false → q i = true → fb_ct p n < fb_ct q n
  | 0, _, hi, _, _ => absurd hi (Nat.not_lt_zero i)
  | n + 1, h, hi, h1, h2 => by
    rw [fb_ct_succ, fb_ct_succ]
    rcases Nat.lt_or_ge i n with h3 | h3
    · have ih := fb_ct_lt (n := n) (fun k hk => h k (by omega)) h3 h1 h2
      have hn := h n (by omega)
      by_cases e : p n = true
      · rw [if_pos e, if_pos (hn e)]; omega
      · rw [if_neg e]; split <;> omega
    · obtain rfl : i = n := by omega
      have := fb_ct_sub (p := p) (q := q) (n := i) (fun k hk => h k (by omega))
      rw [h1, h2, if_neg (by decide), if_pos rfl]
      omega
theorem aw_N_sat {us : Nat → Bool} {fr to : Nat → Nat} (hf : ∀ s, s < 12 → fr s < 10) (ht : ∀ s, s < 12 → to s < 10) {t : Nat} (htt : t < 10) {m p : Nat} (h : aw_N us fr to t m p = true) : aw_N us fr to t 9 p = true := by
  have key : ∀ k, (∃ j, j < k ∧ ∀ p, p < 10 → aw_N us fr to t (j + 1) p = true → aw_N us fr to t j p = true) ∨ k + 1 ≤ fb_ct (aw_N us fr to t k) 10 := by
    intro k
    induction k with
    | zero => exact Or.inr (fb_ct_pos.mpr ⟨t, htt, decide_eq_true rfl⟩)
    | succ k ih =>
      rcases ih with ⟨j, hj, hh⟩ | ih
      · exact Or.inl ⟨j, by omega, hh⟩
      · by_cases g : ∀ p, p < 10 → aw_N us fr to t (k + 1) p = true → aw_N us fr to t k p = true
        · exact Or.inl ⟨k, by omega, g⟩
        · refine Or.inr ?_
          have : ∃ i, i < 10 ∧ aw_N us fr to t k i = false ∧ aw_N us fr to t (k + 1) i = true := by
            false_or_by_contra
            rename_i q
            refine g (fun p hp h1 => ?_)
            cases e : aw_N us fr to t k p
            · exact absurd ⟨p, hp, e, h1⟩ q
            · rfl
          obtain ⟨i, hi, h1, h2⟩ := this
          have := fb_ct_lt (p := aw_N us fr to t k) (q := aw_N us fr to t (k + 1)) (n := 10) (fun k _ h => aw_N_iff.mpr (Or.inl h)) hi h1 h2
          omega
  have hp := aw_N_lt hf ht htt h
  rcases key 10 with ⟨j, hj, hh⟩ | hh
  · rcases Nat.lt_or_ge m j with h2 | h2
    · exact aw_N_le (by omega) h
    · have := aw_N_fix hf ht hh (m - j) p hp (by rw [Nat.add_sub_cancel' h2]; exact h)
      exact aw_N_le (by omega) this
  · have := fb_ct_le (aw_N us fr to t 10) 10
    omega
/-- the class' step -/
abbrev aw_us (st be : Int32) (dn cr sl : Nat → Int32) (i s : Nat) : Bool := bt st s && decide (am_bs be (am_dw dn cr i) (sl s))
abbrev aw_ix (f : Nat → Int32) (s : Nat) : Nat := (f s).toNatClampNeg
theorem aw_ix_of {f : Nat → Int32} {s : Nat} (h : am_rn (f s) 0 9) : aw_ix f s < 10 ∧ f s = nI (aw_ix f s) := by
  obtain ⟨i, hi, e⟩ := am_rn_ix h (n := 10) (by omega) (by omega)
  unfold aw_ix
  rw [e, am_cl (by omega)]
  exact ⟨hi, rfl⟩
theorem s_stepsFrom (X : AMx) (R : Nat → Nat → Int32) (Z : Nat → Int32) (A : Nat → Nat → Int32) (Y : Nat → Int32) {i : Nat} (hi : i < 7) (hcr : ∀ k, k < 7 → am_rn (R 1 k) 0 2) (hdn : ∀ c, c < 3 → am_rn (R 0 c) (-9) 9) (hbe : am_rn (Z 0) 0 18) (h6 : ∀ s, s < 12 → am_rn (R 6 s) 0 9) (h7 : ∀ s, s < 12 → am_rn (R 7 s) 0 9) (h8 : ∀ s, s < 12 → am_rn (R 8 s) (-9) 9) (x : Int32) : ∃ w : Int32, (∀ p, p < 32 → bt w p = aw_st (aw_us (Z 3) (Z 0) (R 0) (R 1) (R 8) i) (aw_ix (R 6)) (aw_ix (R 7)) (bt x) 12 p) ∧ am_D X 42 [.ref 1, .int x, .int (nI i)] (am_WH R Z A Y) = some (some (.int w), am_WH R Z A Y) := by
  have key : ∀ d s w y5 y6, s + d = 12 → (∀ p, p < 32 → bt w p = aw_st (aw_us (Z 3) (Z 0) (R 0) (R 1) (R 8) i) (aw_ix (R 6)) (aw_ix (R 7)) (bt x) s p) → ∃ w' : Int32, (∀ p, p < 32 → bt w' p = aw_st (aw_us (Z 3) (Z 0) (R 0) (R 1) (R 8) i) (aw_ix (R 6)) (aw_ix (R 7)) (bt x) 12 p) ∧ am_E X AM_X4_stepsFrom 5 [some (.ref 1), some (.int x), some (.int (nI i)), some (.int w), some (.int (nI s)), y5, y6] [] (am_WH R Z A Y) = some (some (.int w'), am_WH R Z A Y) := by
    intro d
    induction d with
    | zero =>
      intro s w y5 y6 hs hw
      obtain rfl : s = 12 := by omega
      exact ⟨w, hw, by rw [b_X4_stepsFrom_1_5, if_pos (show (12 : Int32) ≤ nI 12 from Int32.le_refl _), b_X4_stepsFrom_1_109]⟩
    | succ d ih =>
      intro s w y5 y6 hs hw
      have hs12 : s < 12 := by omega
      rw [b_X4_stepsFrom_1_5, if_neg (show ¬ (12 : Int32) ≤ nI s from nI_ge (a := s) (b := 12) (by omega) (by omega)), b_X4_stepsFrom_1_12, s_has, am_C_v, b_X4_stepsFrom_1_21]
      by_cases g1 : bt (Z 3) s = true
      · rw [am_bI_t ((am_hs_nI (by omega)).mpr g1), if_neg (by decide), b_X4_stepsFrom_1_24, d_X1_get_18, am_rg_nI hs12 (by omega), am_C_v, b_X4_stepsFrom_1_34, s_carries_1 X R Z A Y hi (hcr i hi) hdn hbe (h8 s hs12), am_C_v, b_X4_stepsFrom_1_38]
        by_cases g2 : am_bs (Z 0) (am_dw (R 0) (R 1) i) (R 8 s)
        · obtain ⟨f10, ef⟩ := aw_ix_of (h6 s hs12)
          obtain ⟨t10, et⟩ := aw_ix_of (h7 s hs12)
          have gu : aw_us (Z 3) (Z 0) (R 0) (R 1) (R 8) i s = true := by simp [aw_us, g1, g2]
          rw [am_bI_t g2, if_neg (by decide), b_X4_stepsFrom_1_41, d_X1_get_14, am_rg_nI hs12 (by omega), am_C_v, b_X4_stepsFrom_1_50, d_X1_get_16, am_rg_nI hs12 (by omega), am_C_v, b_X4_stepsFrom_1_61, s_has, am_C_v, b_X4_stepsFrom_1_70, ef, et]
          by_cases g3 : bt x (aw_ix (R 6) s) = true
          · rw [am_bI_t ((am_hs_nI (by omega)).mpr g3), if_neg (by decide), b_X4_stepsFrom_1_73, s_has, am_C_v, b_X4_stepsFrom_1_90]
            by_cases g4 : bt x (aw_ix (R 7) s) = true
            · rw [am_bI_t ((am_hs_nI (by omega)).mpr g4), if_neg (by decide), b_X4_stepsFrom_1_93, nI_1]
              exact ih (s + 1) _ _ _ (by omega) (fun p hp => by
                rw [b_or, b_or, hw p hp, b_bit _ (by omega) hp, b_bit _ (by omega) hp]
                show _ = (aw_st _ _ _ _ s p || (aw_us _ _ _ _ _ i s && _))
                rw [gu, g3, g4, Bool.true_and, Bool.and_true, Bool.and_true, Bool.or_assoc]
                simp only [eq_comm])
            · rw [am_bI_f (fun z => g4 ((am_hs_nI (by omega)).mp z)), if_pos rfl, b_X4_stepsFrom_1_100, nI_1]
              exact ih (s + 1) _ _ _ (by omega) (fun p hp => by
                rw [b_or, b_or, hw p hp, b_bit _ (by omega) hp, b_0]
                show _ = (aw_st _ _ _ _ s p || (aw_us _ _ _ _ _ i s && _))
                rw [gu, g3, Bool.eq_false_iff.mpr g4, Bool.true_and, Bool.and_true, Bool.and_false, Bool.or_false, Bool.or_false]
                simp only [eq_comm])
          · rw [am_bI_f (fun z => g3 ((am_hs_nI (by omega)).mp z)), if_pos rfl, b_X4_stepsFrom_1_80, s_has, am_C_v, b_X4_stepsFrom_1_90]
            by_cases g4 : bt x (aw_ix (R 7) s) = true
            · rw [am_bI_t ((am_hs_nI (by omega)).mpr g4), if_neg (by decide), b_X4_stepsFrom_1_93, nI_1]
              exact ih (s + 1) _ _ _ (by omega) (fun p hp => by
                rw [b_or, b_or, hw p hp, b_bit _ (by omega) hp, b_0]
                show _ = (aw_st _ _ _ _ s p || (aw_us _ _ _ _ _ i s && _))
                rw [gu, Bool.eq_false_iff.mpr g3, g4, Bool.true_and, Bool.and_true, Bool.and_false, Bool.false_or, Bool.or_false]
                simp only [eq_comm])
            · rw [am_bI_f (fun z => g4 ((am_hs_nI (by omega)).mp z)), if_pos rfl, b_X4_stepsFrom_1_100, nI_1]
              exact ih (s + 1) _ _ _ (by omega) (fun p hp => by
                rw [b_or, b_or, hw p hp, b_0]
                show _ = (aw_st _ _ _ _ s p || (aw_us _ _ _ _ _ i s && _))
                rw [gu, Bool.eq_false_iff.mpr g3, Bool.eq_false_iff.mpr g4, Bool.true_and, Bool.and_false, Bool.and_false]
                simp only [Bool.or_false])
        · have gu : aw_us (Z 3) (Z 0) (R 0) (R 1) (R 8) i s = false := by simp [aw_us, g2]
          rw [am_bI_f g2, if_pos rfl, b_X4_stepsFrom_1_103, nI_1]
          exact ih (s + 1) _ _ _ (by omega) (fun p hp => by
            rw [hw p hp]
            show _ = (aw_st _ _ _ _ s p || (aw_us _ _ _ _ _ i s && _))
            rw [gu, Bool.false_and, Bool.or_false])
      · have gu : aw_us (Z 3) (Z 0) (R 0) (R 1) (R 8) i s = false := by simp [aw_us, g1]
        rw [am_bI_f (fun z => g1 ((am_hs_nI (by omega)).mp z)), if_pos rfl, b_X4_stepsFrom_1_103, nI_1]
        exact ih (s + 1) _ _ _ (by omega) (fun p hp => by
          rw [hw p hp]
          show _ = (aw_st _ _ _ _ s p || (aw_us _ _ _ _ _ i s && _))
          rw [gu, Bool.false_and, Bool.or_false])
  obtain ⟨w, h1, h2⟩ := key 12 0 x none none (by omega) (fun p _ => rfl)
  exact ⟨w, h1, by rw [d_X4_stepsFrom_1, b_X4_stepsFrom_1_0]; exact h2⟩
/-! the reference's row of far -/
theorem aw_uu {α : Type} (f : Nat → α) (k : Nat) (x y : α) : am_up (am_up f k x) k y = am_up f k y := funext fun j => by
  rw [am_ue, am_ue, am_ue]
  split <;> rfl
theorem aw_self {α : Type} (f : Nat → α) (k : Nat) : am_up f k (f k) = f := funext fun j => by
  rw [am_ue]
  split
  · rename_i h; rw [h]
  · rfl
theorem aw_up_lt {F : Nat → Int32} {f : Nat → Nat} (h : ∀ p, p < 10 → F p = nI (f p)) (k : Nat) {v : Int32} {n : Nat} (hv : v = nI n) : ∀ p, p < 10 → upd F k v p = nI (am_up f k n p) := by
  intro p hp
  rw [am_ue]
  by_cases e : p = k
  · rw [if_pos e, e, upd_s, hv]
  · rw [if_neg e, upd_n _ _ e, h p hp]
/-- one stair of one round -/
def aw_rl (f : Nat → Nat) (a t : Nat) : Nat → Nat := am_up (am_up f t (min (f t) (f a + 1))) a (min ((am_up f t (min (f t) (f a + 1))) a) ((am_up f t (min (f t) (f a + 1))) t + 1))
theorem aw_rl_le (f : Nat → Nat) (a t p : Nat) : aw_rl f a t p ≤ f p := by
  unfold aw_rl
  simp only [am_ue, if_true]
  by_cases h1 : p = a
  · subst h1
    rw [if_pos rfl]
    by_cases h2 : p = t
    · subst h2
      rw [if_pos rfl]
      omega
    · rw [if_neg h2]
      omega
  · rw [if_neg h1]
    by_cases h2 : p = t
    · subst h2
      rw [if_pos rfl]
      omega
    · rw [if_neg h2]
      omega
theorem aw_rl_t (f : Nat → Nat) (a t : Nat) : aw_rl f a t t ≤ f a + 1 := by
  unfold aw_rl
  simp only [am_ue, if_true]
  by_cases h1 : t = a
  · subst h1
    rw [if_pos rfl, if_pos rfl]
    omega
  · rw [if_neg h1]
    omega
theorem aw_rl_a (f : Nat → Nat) (a t : Nat) : aw_rl f a t a ≤ f t + 1 := by
  unfold aw_rl
  simp only [am_ue, if_true]
  omega
theorem aw_rl_is (f : Nat → Nat) (a t p : Nat) : aw_rl f a t p = f p ∨ (p = t ∧ aw_rl f a t p = f a + 1) ∨ (p = a ∧ (aw_rl f a t p = f t + 1 ∨ aw_rl f a t p = f a + 2)) := by
  unfold aw_rl
  simp only [am_ue, if_true]
  by_cases h1 : p = a
  · subst h1
    rw [if_pos rfl]
    by_cases h2 : p = t
    · subst h2
      rw [if_pos rfl]
      omega
    · rw [if_neg h2]
      omega
  · rw [if_neg h1]
    by_cases h2 : p = t
    · subst h2
      rw [if_pos rfl]
      omega
    · rw [if_neg h2]
      omega
/-- what is so behind r rounds and s stairs of one more -/
def aw_FI (us : Nat → Bool) (fr to : Nat → Nat) (t : Nat) (f : Nat → Nat) (r s : Nat) : Nat → Prop
  | 0 => ∀ p, p < 10 → f p ≤ 1000000
  | 1 => ∀ p, p < 10 → f p < 1000000 → aw_N us fr to t (f p) p = true
  | 2 => ∀ k, k ≤ r → ∀ p, p < 10 → aw_N us fr to t k p = true → f p ≤ k
  | 3 => ∀ k, k < s → us k = true → (aw_N us fr to t r (fr k) = true → f (to k) ≤ r + 1) ∧ (aw_N us fr to t r (to k) = true → f (fr k) ≤ r + 1)
  | _ => True
theorem aw_FI_no {us : Nat → Bool} {fr to : Nat → Nat} {t : Nat} {f : Nat → Nat} {r s : Nat} (hu : us s = false) (h : ∀ i, aw_FI us fr to t f r s i) : ∀ i, aw_FI us fr to t f r (s + 1) i
  | 0 => h 0
  | 1 => h 1
  | 2 => h 2
  | 3 => by
    intro k hk hk2
    rcases Nat.lt_or_ge k s with h2 | h2
    · exact h 3 k h2 hk2
    · obtain rfl : k = s := by omega
      rw [hu] at hk2
      cases hk2
  | _ + 4 => trivial
theorem aw_FI_rl {us : Nat → Bool} {fr to : Nat → Nat} {t : Nat} {f : Nat → Nat} {r s : Nat} (hs : s < 12) (hf : ∀ s, s < 12 → fr s < 10) (ht : ∀ s, s < 12 → to s < 10) (hu : us s = true) (h : ∀ i, aw_FI us fr to t f r s i) : ∀ i, aw_FI us fr to t (aw_rl f (fr s) (to s)) r (s + 1) i
  | 0 => fun p hp => Nat.le_trans (aw_rl_le _ _ _ _) (h 0 p hp)
  | 1 => by
    intro p hp hlt
    have hfr := hf s hs
    have hto := ht s hs
    rcases aw_rl_is f (fr s) (to s) p with e | ⟨rfl, e⟩ | ⟨rfl, e | e⟩
    · rw [e] at hlt ⊢; exact h 1 p hp hlt
    · rw [e] at hlt ⊢
      exact aw_N_iff.mpr (Or.inr ⟨s, hs, hu, Or.inl ⟨rfl, h 1 _ hfr (by omega)⟩⟩)
    · rw [e] at hlt ⊢
      exact aw_N_iff.mpr (Or.inr ⟨s, hs, hu, Or.inr ⟨rfl, h 1 _ hto (by omega)⟩⟩)
    · rw [e] at hlt ⊢
      exact aw_N_up (h 1 _ hfr (by omega)) 2
  | 2 => fun k hk p hp hN => Nat.le_trans (aw_rl_le _ _ _ _) (h 2 k hk p hp hN)
  | 3 => by
    intro k hk hk2
    rcases Nat.lt_or_ge k s with h2 | h2
    · exact ⟨fun z => Nat.le_trans (aw_rl_le _ _ _ _) ((h 3 k h2 hk2).1 z), fun z => Nat.le_trans (aw_rl_le _ _ _ _) ((h 3 k h2 hk2).2 z)⟩
    · obtain rfl : k = s := by omega
      exact ⟨fun z => Nat.le_trans (aw_rl_t _ _ _) (Nat.succ_le_succ (h 2 r (Nat.le_refl _) _ (hf _ hs) z)), fun z => Nat.le_trans (aw_rl_a _ _ _) (Nat.succ_le_succ (h 2 r (Nat.le_refl _) _ (ht _ hs) z))⟩
  | _ + 4 => trivial
theorem aw_FI_on {us : Nat → Bool} {fr to : Nat → Nat} {t : Nat} {f : Nat → Nat} {r : Nat} (h : ∀ i, aw_FI us fr to t f r 12 i) : ∀ i, aw_FI us fr to t f (r + 1) 0 i
  | 0 => h 0
  | 1 => h 1
  | 2 => by
    intro k hk p hp hN
    rcases Nat.lt_or_ge r k with h2 | h2
    · obtain rfl : k = r + 1 := by omega
      rcases aw_N_iff.mp hN with q | ⟨s, hs, hu, q | q⟩
      · exact Nat.le_succ_of_le (h 2 r (Nat.le_refl _) p hp q)
      · rw [← q.1]; exact (h 3 s hs hu).1 q.2
      · rw [← q.1]; exact (h 3 s hs hu).2 q.2
    · exact h 2 k h2 p hp hN
  | 3 => fun k hk => absurd hk (Nat.not_lt_zero k)
  | _ + 4 => trivial
/-- far, and the places -/
def aw_dist (N : Nat → Nat → Bool) (f p : Nat) : Prop := (N 9 p = true ∧ f ≤ 9 ∧ N f p = true ∧ ∀ k, k < f → N k p = false) ∨ (N 9 p = false ∧ f = 1000000)
theorem aw_FI_end {us : Nat → Bool} {fr to : Nat → Nat} {t : Nat} {f : Nat → Nat} (hf : ∀ s, s < 12 → fr s < 10) (ht : ∀ s, s < 12 → to s < 10) (htt : t < 10) (h : ∀ i, aw_FI us fr to t f 10 0 i) {p : Nat} (hp : p < 10) : aw_dist (aw_N us fr to t) (f p) p := by
  cases e : aw_N us fr to t 9 p with
  | true =>
    have b9 := h 2 9 (by omega) p hp e
    refine Or.inl ⟨e, b9, h 1 p hp (by omega), fun k hk => ?_⟩
    cases e2 : aw_N us fr to t k p
    · rfl
    · have := h 2 k (by omega) p hp e2
      omega
  | false =>
    refine Or.inr ⟨e, ?_⟩
    have h1 := h 0 p hp
    rcases Nat.lt_or_ge (f p) 1000000 with h2 | h2
    · have := aw_N_sat hf ht htt (h 1 p hp h2)
      rw [e] at this
      cases this
    · omega
/-- the first row of far -/
theorem aw_FI_0 {us : Nat → Bool} {fr to : Nat → Nat} {t : Nat} : ∀ i, aw_FI us fr to t (fun p => if p = t then 0 else 1000000) 0 0 i
  | 0 => by
    intro p _
    dsimp only
    split <;> omega
  | 1 => by
    intro p _ h
    dsimp only at h ⊢
    by_cases e : p = t
    · rw [if_pos e]
      exact decide_eq_true e
    · rw [if_neg e] at h
      omega
  | 2 => by
    intro k hk p _ hN
    obtain rfl : k = 0 := by omega
    dsimp only
    rw [if_pos (of_decide_eq_true hN : p = t)]
    exact Nat.le_refl _
  | 3 => fun k hk => absurd hk (Nat.not_lt_zero k)
  | _ + 4 => trivial
theorem aw_inj {a b : Nat} (ha : a < 2 ^ 31) (hb : b < 2 ^ 31) (h : nI a = nI b) : a = b := by
  have := congrArg Int32.toInt h
  rw [nI_toInt ha, nI_toInt hb] at this
  omega
theorem aw_FIs {us : Nat → Bool} {fr to : Nat → Nat} {t : Nat} {f : Nat → Nat} {r : Nat} (h : ∀ i, aw_FI us fr to t f r 0 i) : ∀ i, aw_FI us fr to t f r 0 i := h
theorem s_layFar (X : AMx) (R : Nat → Nat → Int32) (Z : Nat → Int32) (A : Nat → Nat → Int32) (Y : Nat → Int32) {i t : Nat} (hi : i < 7) (htt : t < 10) (hc : ∀ k, k < 7 → am_rn (A 0 k) 0 2) (hdn : ∀ c, c < 3 → am_rn (A 2 c) (-9) 9) (hbe : am_rn (Y 1) 0 18) (h6 : ∀ s, s < 12 → am_rn (A 4 s) 0 9) (h7 : ∀ s, s < 12 → am_rn (A 5 s) 0 9) (h8 : ∀ s, s < 12 → am_rn (A 6 s) (-9) 9) : ∃ (F : Nat → Int32) (f : Nat → Nat), (∀ p, p < 10 → F p = nI (f p)) ∧ (∀ p, p < 10 → aw_dist (aw_N (aw_us (Y 2) (Y 1) (A 2) (A 0) (A 6) i) (aw_ix (A 4)) (aw_ix (A 5)) t) (f p) p) ∧ am_D X 134 [.ref 88, .int (nI i), .int (nI t)] (am_WH R Z A Y) = some (none, am_WH R Z (am_up A 9 F) Y) := by
  have hf : ∀ s, s < 12 → aw_ix (A 4) s < 10 := fun s hs => (aw_ix_of (h6 s hs)).1
  have ht : ∀ s, s < 12 → aw_ix (A 5) s < 10 := fun s hs => (aw_ix_of (h7 s hs)).1
  -- the first row
  have init : ∀ d k F, k + d = 10 → (∀ p, p < k → F p = nI (if p = t then 0 else 1000000)) → ∃ F', (∀ p, p < 10 → F' p = nI (if p = t then 0 else 1000000)) ∧ am_E X AM_X6_layFar 2 [some (.ref 88), some (.int (nI i)), some (.int (nI t)), some (.int (nI k)), none, none, none] [] (am_WH R Z (am_up A 9 F) Y) = am_E X AM_X6_layFar 31 [some (.ref 88), some (.int (nI i)), some (.int (nI t)), some (.int (nI 10)), none, none, none] [] (am_WH R Z (am_up A 9 F') Y) := by
    intro d
    induction d with
    | zero =>
      intro k F hk hF
      obtain rfl : k = 10 := by omega
      exact ⟨F, hF, by rw [b_X6_layFar_2, if_pos (show (10 : Int32) ≤ nI 10 from Int32.le_refl _)]⟩
    | succ d ih =>
      intro k F hk hF
      rw [b_X6_layFar_2, if_neg (show ¬ (10 : Int32) ≤ nI k from nI_ge (a := k) (b := 10) (by omega) (by omega)), b_X6_layFar_8]
      by_cases e : k = t
      · rw [if_pos (congrArg nI e), b_X6_layFar_18, if_pos (am_in_nI (by omega) (by omega)), am_cl (by omega), aw_uu, am_up_s A 9 _, b_X6_layFar_25, nI_1]
        refine ih (k + 1) _ (by omega) (fun p hp => ?_)
        by_cases e2 : p = k
        · rw [e2, upd_s, if_pos e]; rfl
        · rw [upd_n _ _ e2]; exact hF p (by omega)
      · rw [if_neg (fun z => e (aw_inj (by omega) (by omega) z)), b_X6_layFar_22, if_pos (am_in_nI (by omega) (by omega)), am_cl (by omega), aw_uu, am_up_s A 9 _, b_X6_layFar_25, nI_1]
        refine ih (k + 1) _ (by omega) (fun p hp => ?_)
        by_cases e2 : p = k
        · rw [e2, upd_s, if_neg e]; rfl
        · rw [upd_n _ _ e2]; exact hF p (by omega)
  -- one stair
  have relax : ∀ (F : Nat → Int32) (f : Nat → Nat) (r s : Nat) (y5 y6 : Option Value), s < 12 → r < 2 ^ 30 → (∀ p, p < 10 → F p = nI (f p)) → (∀ p, p < 10 → f p ≤ 1000000) → ∃ F', (∀ p, p < 10 → F' p = nI (aw_rl f (aw_ix (A 4) s) (aw_ix (A 5) s) p)) ∧ am_E X AM_X6_layFar 81 [some (.ref 88), some (.int (nI i)), some (.int (nI t)), some (.int (nI r)), some (.int (nI s)), y5, y6] [] (am_WH R Z (am_up A 9 F) Y) = am_E X AM_X6_layFar 189 [some (.ref 88), some (.int (nI i)), some (.int (nI t)), some (.int (nI r)), some (.int (nI s)), some (.int (nI (aw_ix (A 4) s))), some (.int (nI (aw_ix (A 5) s)))] [] (am_WH R Z (am_up A 9 F') Y) := by
    intro F f r s y5 y6 hs hr hF hb
    obtain ⟨f10, ef⟩ := aw_ix_of (h6 s hs)
    obtain ⟨t10, et⟩ := aw_ix_of (h7 s hs)
    unfold aw_rl
    generalize aw_ix (A 4) s = a at f10 ef ⊢
    generalize aw_ix (A 5) s = b at t10 et ⊢
    have ba := hb a f10
    have bb := hb b t10
    rw [b_X6_layFar_81, if_pos (am_in_nI hs (by omega)), am_cl (by omega), show am_up A 9 F 4 s = A 4 s from rfl, ef, b_X6_layFar_88, if_pos (am_in_nI hs (by omega)), am_cl (by omega), show am_up A 9 F 5 s = A 5 s from rfl, et, b_X6_layFar_97, if_pos (am_in_nI f10 (by omega)), am_cl (by omega), b_X6_layFar_112, if_pos (am_in_nI t10 (by omega)), am_cl (by omega), b_X6_layFar_121, am_up_s A 9 F, hF a f10, hF b t10, nI_1]
    have half2 : ∀ (G : Nat → Int32) (g : Nat → Nat), (∀ p, p < 10 → G p = nI (g p)) → (∀ p, p < 10 → g p ≤ 1000001) → ∃ F', (∀ p, p < 10 → F' p = nI (am_up g a (min (g a) (g b + 1)) p)) ∧ am_E X AM_X6_layFar 144 [some (.ref 88), some (.int (nI i)), some (.int (nI t)), some (.int (nI r)), some (.int (nI s)), some (.int (nI a)), some (.int (nI b))] [] (am_WH R Z (am_up A 9 G) Y) = am_E X AM_X6_layFar 189 [some (.ref 88), some (.int (nI i)), some (.int (nI t)), some (.int (nI r)), some (.int (nI s)), some (.int (nI a)), some (.int (nI b))] [] (am_WH R Z (am_up A 9 F') Y) := by
      intro G g hG hgb
      have gb := hgb b t10
      have ga := hgb a f10
      rw [b_X6_layFar_144, if_pos (am_in_nI t10 (by omega)), am_cl (by omega), b_X6_layFar_157, if_pos (am_in_nI f10 (by omega)), am_cl (by omega), b_X6_layFar_166, am_up_s A 9 G, hG a f10, hG b t10, nI_1]
      by_cases q : g a ≤ g b + 1
      · rw [if_pos (nI_le q (by omega)), b_X6_layFar_181, if_pos (am_in_nI f10 (by omega)), am_cl (by omega), b_X6_layFar_188, if_pos (am_in_nI f10 (by omega)), am_cl (by omega), aw_uu, am_up_s A 9 _]
        exact ⟨_, aw_up_lt hG a (by rw [hG a f10, Nat.min_eq_left q]), rfl⟩
      · rw [if_neg (nI_ge (by omega) (by omega)), b_X6_layFar_169, if_pos (am_in_nI t10 (by omega)), am_cl (by omega), b_X6_layFar_176, if_pos (am_in_nI f10 (by omega)), am_cl (by omega), aw_uu, am_up_s A 9 _]
        exact ⟨_, aw_up_lt hG a (by rw [hG b t10, nI_1, Nat.min_eq_right (by omega)]), rfl⟩
    by_cases q : f b ≤ f a + 1
    · rw [if_pos (nI_le q (by omega)), b_X6_layFar_136, if_pos (am_in_nI t10 (by omega)), am_cl (by omega), b_X6_layFar_143, if_pos (am_in_nI t10 (by omega)), am_cl (by omega), aw_uu, am_up_s A 9 _]
      exact half2 _ _ (aw_up_lt hF b (by rw [hF b t10, Nat.min_eq_left q])) (fun p hp => by
        have := hb p hp
        rw [am_ue]; split <;> omega)
    · rw [if_neg (nI_ge (by omega) (by omega)), b_X6_layFar_124, if_pos (am_in_nI f10 (by omega)), am_cl (by omega), b_X6_layFar_131, if_pos (am_in_nI t10 (by omega)), am_cl (by omega), aw_uu, am_up_s A 9 _]
      exact half2 _ _ (aw_up_lt hF b (by rw [hF a f10, nI_1, Nat.min_eq_right (by omega)])) (fun p hp => by
        have := hb p hp
        rw [am_ue]; split <;> omega)
  -- one round
  have stairs : ∀ d s F f r y5 y6, s + d = 12 → r < 10 → (∀ p, p < 10 → F p = nI (f p)) → (∀ j, aw_FI (aw_us (Y 2) (Y 1) (A 2) (A 0) (A 6) i) (aw_ix (A 4)) (aw_ix (A 5)) t f r s j) → ∃ F' f' y5' y6', (∀ p, p < 10 → F' p = nI (f' p)) ∧ (∀ j, aw_FI (aw_us (Y 2) (Y 1) (A 2) (A 0) (A 6) i) (aw_ix (A 4)) (aw_ix (A 5)) t f' r 12 j) ∧ am_E X AM_X6_layFar 42 [some (.ref 88), some (.int (nI i)), some (.int (nI t)), some (.int (nI r)), some (.int (nI s)), y5, y6] [] (am_WH R Z (am_up A 9 F) Y) = am_E X AM_X6_layFar 195 [some (.ref 88), some (.int (nI i)), some (.int (nI t)), some (.int (nI r)), some (.int (nI 12)), y5', y6'] [] (am_WH R Z (am_up A 9 F') Y) := by
    intro d
    induction d with
    | zero =>
      intro s F f r y5 y6 hs hr hF hI
      obtain rfl : s = 12 := by omega
      exact ⟨F, f, y5, y6, hF, hI, by rw [b_X6_layFar_42, if_pos (show (12 : Int32) ≤ nI 12 from Int32.le_refl _)]⟩
    | succ d ih =>
      intro s F f r y5 y6 hs hr hF hI
      have hs12 : s < 12 := by omega
      rw [b_X6_layFar_42, if_neg (show ¬ (12 : Int32) ≤ nI s from nI_ge (a := s) (b := 12) (by omega) (by omega)), b_X6_layFar_49, s_mhas, am_C_v, b_X6_layFar_58]
      by_cases g1 : bt (Y 2) s = true
      · rw [am_bI_t ((b_one s (by omega) _).mpr g1), if_neg (by decide), b_X6_layFar_61, if_pos (am_in_nI hs12 (by omega)), am_cl (by omega), show am_up A 9 F 6 s = A 6 s from rfl, b_X6_layFar_69, if_pos (am_in_nI (n := 32) (i := i) (by omega) (by omega)), am_cl (by omega), b_X6_layFar_75, s_mbear X R Z (am_up A 9 F) Y 0 i (hc i hi) hdn hbe (h8 s hs12), am_C_v, b_X6_layFar_78]
        show ∃ F' f' y5' y6', _ ∧ _ ∧ (if am_bI (am_bs (Y 1) (am_dw (A 2) (A 0) i) (A 6 s)) = 0 then _ else _) = _
        by_cases g2 : am_bs (Y 1) (am_dw (A 2) (A 0) i) (A 6 s)
        · have gu : aw_us (Y 2) (Y 1) (A 2) (A 0) (A 6) i s = true := by simp [aw_us, g1, g2]
          obtain ⟨F2, hF2, e2⟩ := relax F f r s y5 y6 hs12 (by omega) hF (hI 0)
          rw [am_bI_t g2, if_neg (by decide), e2, b_X6_layFar_189, nI_1]
          exact ih (s + 1) _ _ r _ _ (by omega) hr hF2 (aw_FI_rl hs12 hf ht gu hI)
        · have gu : aw_us (Y 2) (Y 1) (A 2) (A 0) (A 6) i s = false := by simp [aw_us, g2]
          rw [am_bI_f g2, if_pos rfl, b_X6_layFar_189, nI_1]
          exact ih (s + 1) _ _ r _ _ (by omega) hr hF (aw_FI_no gu hI)
      · have gu : aw_us (Y 2) (Y 1) (A 2) (A 0) (A 6) i s = false := by simp [aw_us, g1]
        rw [am_bI_f (fun z => g1 ((b_one s (by omega) _).mp z)), if_pos rfl, b_X6_layFar_189, nI_1]
        exact ih (s + 1) _ _ r _ _ (by omega) hr hF (aw_FI_no gu hI)
  have rounds : ∀ d r F f y4 y5 y6, r + d = 10 → (∀ p, p < 10 → F p = nI (f p)) → (∀ j, aw_FI (aw_us (Y 2) (Y 1) (A 2) (A 0) (A 6) i) (aw_ix (A 4)) (aw_ix (A 5)) t f r 0 j) → ∃ F' f', (∀ p, p < 10 → F' p = nI (f' p)) ∧ (∀ j, aw_FI (aw_us (Y 2) (Y 1) (A 2) (A 0) (A 6) i) (aw_ix (A 4)) (aw_ix (A 5)) t f' 10 0 j) ∧ am_E X AM_X6_layFar 33 [some (.ref 88), some (.int (nI i)), some (.int (nI t)), some (.int (nI r)), y4, y5, y6] [] (am_WH R Z (am_up A 9 F) Y) = some (none, am_WH R Z (am_up A 9 F') Y) := by
    intro d
    induction d with
    | zero =>
      intro r F f y4 y5 y6 hr hF hI
      obtain rfl : r = 10 := by omega
      exact ⟨F, f, hF, hI, by rw [b_X6_layFar_33, if_pos (show (10 : Int32) ≤ nI 10 from Int32.le_refl _), b_X6_layFar_201]⟩
    | succ d ih =>
      intro r F f y4 y5 y6 hr hF hI
      obtain ⟨F2, f2, y52, y62, hF2, hI2, e2⟩ := stairs 12 0 F f r y5 y6 (by omega) (by omega) hF hI
      obtain ⟨F3, f3, hF3, hI3, e3⟩ := ih (r + 1) F2 f2 (some (.int (nI 12))) y52 y62 (by omega) hF2 (aw_FI_on hI2)
      refine ⟨F3, f3, hF3, hI3, ?_⟩
      rw [b_X6_layFar_33, if_neg (show ¬ (10 : Int32) ≤ nI r from nI_ge (a := r) (b := 10) (by omega) (by omega)), b_X6_layFar_39]
      refine Eq.trans e2 ?_
      rw [b_X6_layFar_195, nI_1]
      exact e3
  obtain ⟨F1, hF1, e1⟩ := init 10 0 (A 9) (by omega) (fun p hp => absurd hp (Nat.not_lt_zero p))
  rw [aw_self] at e1
  obtain ⟨F, f, hF, hI, e⟩ := rounds 10 0 F1 (fun p => if p = t then 0 else 1000000) none none none (by omega) hF1 aw_FI_0
  refine ⟨F, f, hF, fun p hp => aw_FI_end hf ht htt hI hp, ?_⟩
  rw [d_X6_layFar, b_X6_layFar_0]
  refine Eq.trans e1 ?_
  rw [b_X6_layFar_31]
  exact e
