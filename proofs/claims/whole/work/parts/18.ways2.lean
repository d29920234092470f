theorem aw_st_cong {us us' : Nat → Bool} {fr fr' to to' : Nat → Nat} {P Q : Nat → Bool} (hP : ∀ p, p < 32 → P p = Q p) : ∀ {n : Nat}, (∀ s, s < n → us s = us' s ∧ fr s = fr' s ∧ to s = to' s ∧ fr s < 32 ∧ to s < 32) → ∀ p, p < 32 → aw_st us fr to P n p = aw_st us' fr' to' Q n p
  | 0, _, p, hp => hP p hp
  | n + 1, h, p, hp => by
    obtain ⟨h1, h2, h3, h4, h5⟩ := h n (by omega)
    show (aw_st us fr to P n p || (us n && ((decide (to n = p) && P (fr n)) || (decide (fr n = p) && P (to n))))) = (aw_st us' fr' to' Q n p || (us' n && ((decide (to' n = p) && Q (fr' n)) || (decide (fr' n = p) && Q (to' n)))))
    rw [aw_st_cong hP (fun s hs => h s (by omega)) p hp, hP _ h4, hP _ h5, h1, h2, h3]
theorem aw_N_cong {us us' : Nat → Bool} {fr fr' to to' : Nat → Nat} {t : Nat} (h : ∀ s, s < 12 → us s = us' s ∧ fr s = fr' s ∧ to s = to' s ∧ fr s < 32 ∧ to s < 32) : ∀ k p, p < 32 → aw_N us fr to t k p = aw_N us' fr' to' t k p
  | 0, _, _ => rfl
  | k + 1, p, hp => aw_st_cong (aw_N_cong h k) h p hp
theorem am_INV_9 {R : Nat → Nat → Int32} {Z : Nat → Int32} {A : Nat → Nat → Int32} {Y : Nat → Int32} {F : Nat → Int32} (hI : am_INV R Z A Y) : am_INV R Z (am_up A 9 F) Y := by
  refine ⟨?_, hI.2.1, ?_⟩
  · exact (fun ii => match ii with | 0 => hI.1 0 | 1 => hI.1 1 | 2 => hI.1 2 | 3 => hI.1 3 | 4 => hI.1 4 | 5 => hI.1 5 | 6 => hI.1 6 | 7 => hI.1 7 | 8 => hI.1 8 | 9 => hI.1 9 | 10 => hI.1 10 | 11 => hI.1 11 | 12 => hI.1 12 | 13 => hI.1 13 | 14 => hI.1 14 | 15 => hI.1 15 | _ + 16 => trivial)
  · exact am_IM_congr (R := R) (Z := Z) (A := A) (fun _ _ _ => rfl) (fun _ _ _ => rfl) rfl rfl rfl hI.2.2
theorem aw_orf_of {w : Int32} {P : Nat → Bool} {n : Nat} (hn : n ≤ 32) (h : ∀ p, p < 32 → bt w p = P p) (h2 : ∀ p, n ≤ p → P p = false) : w = am_orf P n := by
  apply b_ext
  intro p hp
  rw [am_orf_bt hn hp, h p hp]
  by_cases e : p < n
  · simp [e]
  · rw [h2 p (by omega)]; simp
/-- the stairs of both are the same -/
theorem aw_same {R : Nat → Nat → Int32} {Z : Nat → Int32} {A : Nat → Nat → Int32} {Y : Nat → Int32} (hI : am_INV R Z A Y) {i : Nat} (hi : i < 7) : ∀ s, s < 12 → aw_us (Z 3) (Z 0) (R 0) (R 1) (R 8) i s = aw_us (Y 2) (Y 1) (A 2) (A 0) (A 6) i s ∧ aw_ix (R 6) s = aw_ix (A 4) s ∧ aw_ix (R 7) s = aw_ix (A 5) s ∧ aw_ix (R 6) s < 32 ∧ aw_ix (R 7) s < 32 := by
  intro s hs
  have v0 : Z 0 = Y 1 ∧ am_rn (Z 0) 0 18 := hI.1 0
  have v3 : Z 3 = Y 2 ∧ am_rn (Z 3) 0 4095 := hI.1 3
  have v7 : ∀ i, i < 3 → R 0 i = A 2 i ∧ am_rn (R 0 i) (-9) 9 := hI.1 7
  have v8 : ∀ i, i < 7 → R 1 i = A 0 i ∧ am_rn (R 1 i) 0 2 := hI.1 8
  have v13 : ∀ i, i < 12 → R 6 i = A 4 i ∧ am_rn (R 6 i) 0 9 := hI.1 13
  have v14 : ∀ i, i < 12 → R 7 i = A 5 i ∧ am_rn (R 7 i) 0 9 := hI.1 14
  have v15 : ∀ i, i < 12 → R 8 i = A 6 i ∧ am_rn (R 8 i) (-9) 9 := hI.1 15
  have a1 := aw_ix_of (v13 s hs).2
  have a2 := aw_ix_of (v14 s hs).2
  refine ⟨?_, ?_, ?_, by omega, by omega⟩
  · unfold aw_us
    rw [v3.1, v0.1, am_dw_eq v7 (v8 i hi), (v15 s hs).1]
  · unfold aw_ix; rw [(v13 s hs).1]
  · unfold aw_ix; rw [(v14 s hs).1]
theorem op_reach (X : AMx) (a b : Int32) : am_OP X 69 136 [.int a, .int b] := by
  intro R Z A Y hI
  have v0 : Z 0 = Y 1 ∧ am_rn (Z 0) 0 18 := hI.1 0
  have v1 : Z 1 = Y 0 ∧ am_rn (Z 1) 0 127 := hI.1 1
  have v7 : ∀ i, i < 3 → R 0 i = A 2 i ∧ am_rn (R 0 i) (-9) 9 := hI.1 7
  have v8 : ∀ i, i < 7 → R 1 i = A 0 i ∧ am_rn (R 1 i) 0 2 := hI.1 8
  have v13 : ∀ i, i < 12 → R 6 i = A 4 i ∧ am_rn (R 6 i) 0 9 := hI.1 13
  have v14 : ∀ i, i < 12 → R 7 i = A 5 i ∧ am_rn (R 7 i) 0 9 := hI.1 14
  have v15 : ∀ i, i < 12 → R 8 i = A 6 i ∧ am_rn (R 8 i) (-9) 9 := hI.1 15
  have q1 := am_hs_bt v1.2 (k := 7) (by omega) (by omega) a
  have q2 := am_mh_bt (b := Y 0) (k := 7) (by omega) (m := 6) (by decide) a
  by_cases h1 : ∃ j, j < 7 ∧ a = nI j ∧ bt (Z 1) j = true
  · have c1 := q1.mpr h1
    have c2 := q2.mpr (by rw [← v1.1]; exact h1)
    by_cases h2 : 0 ≤ b ∧ b ≤ 9
    · obtain ⟨i, hi, rfl, _⟩ := h1
      obtain ⟨f0, hf0, rfl⟩ := am_ix h2 (n := 10) (by decide) (by omega)
      have sm := aw_same hI hi
      obtain ⟨F, f, hF, hd, hfar⟩ := s_layFar X R Z A Y hi hf0 (fun k hk => by rw [← (v8 k hk).1]; exact (v8 k hk).2) (fun c hc => by rw [← (v7 c hc).1]; exact (v7 c hc).2) (by rw [← v0.1]; exact v0.2) (fun k hk => by rw [← (v13 k hk).1]; exact (v13 k hk).2) (fun k hk => by rw [← (v14 k hk).1]; exact (v14 k hk).2) (fun k hk => by rw [← (v15 k hk).1]; exact (v15 k hk).2)
      have hlt : ∀ p, 10 ≤ p → aw_N (aw_us (Y 2) (Y 1) (A 2) (A 0) (A 6) i) (aw_ix (A 4)) (aw_ix (A 5)) f0 9 p = false := fun p hp => by
        cases e : aw_N (aw_us (Y 2) (Y 1) (A 2) (A 0) (A 6) i) (aw_ix (A 4)) (aw_ix (A 5)) f0 9 p
        · rfl
        · have := aw_N_lt (fun s hs => (aw_ix_of (f := A 4) (s := s) (by rw [← (v13 s hs).1]; exact (v13 s hs).2)).1) (fun s hs => (aw_ix_of (f := A 5) (s := s) (by rw [← (v14 s hs).1]; exact (v14 s hs).2)).1) hf0 e
          omega
      refine ⟨.int (am_orf (aw_N (aw_us (Y 2) (Y 1) (A 2) (A 0) (A 6) i) (aw_ix (A 4)) (aw_ix (A 5)) f0 9) 10), R, Z, am_up A 9 F, Y, ?_, ?_, am_INV_9 hI⟩
      · have key : ∀ d k w, k + d = 9 → (∀ p, p < 32 → bt w p = aw_N (aw_us (Y 2) (Y 1) (A 2) (A 0) (A 6) i) (aw_ix (A 4)) (aw_ix (A 5)) f0 k p) → ∃ w', (∀ p, p < 32 → bt w' p = aw_N (aw_us (Y 2) (Y 1) (A 2) (A 0) (A 6) i) (aw_ix (A 4)) (aw_ix (A 5)) f0 9 p) ∧ am_E X AM_X5_reach 30 [some (.ref 0), some (.int (nI i)), some (.int (nI f0)), some (.int w), some (.int (nI (k + 1)))] [] (am_WH R Z A Y) = some (some (.int w'), am_WH R Z A Y) := by
          intro d
          induction d with
          | zero =>
            intro k w hk hw
            obtain rfl : k = 9 := by omega
            exact ⟨w, hw, by rw [b_X5_reach_30, if_pos (show (10 : Int32) ≤ nI (9 + 1) from Int32.le_refl _), b_X5_reach_53]⟩
          | succ d ih =>
            intro k w hk hw
            obtain ⟨w2, hw2, e2⟩ := s_stepsFrom X R Z A Y hi (fun k hk => (v8 k hk).2) (fun c hc => (v7 c hc).2) v0.2 (fun k hk => (v13 k hk).2) (fun k hk => (v14 k hk).2) (fun k hk => (v15 k hk).2) w
            obtain ⟨w3, hw3, e3⟩ := ih (k + 1) w2 (by omega) (fun p hp => (hw2 p hp).trans (aw_st_cong hw sm p hp))
            refine ⟨w3, hw3, ?_⟩
            rw [b_X5_reach_30, if_neg (show ¬ (10 : Int32) ≤ nI (k + 1) from nI_ge (a := k + 1) (b := 10) (by omega) (by omega)), b_X5_reach_37, e2, am_C_v, b_X5_reach_46, nI_1]
            exact e3
        obtain ⟨w, hw, e⟩ := key 9 0 ((1 : Int32) <<< (nI f0 &&& 31)) (by omega) (fun p hp => b_bit f0 (by omega) hp)
        rw [aw_orf_of (n := 10) (by omega) hw hlt] at e
        simp only [d_X5_reach, b_X5_reach_0, b_X5_reach_8, b_X5_reach_11, b_X5_reach_13, b_X5_reach_17, b_X5_reach_20, b_X5_reach_23, b_X5_reach_37, b_X5_reach_46, b_X5_reach_53, s_isThere, s_isPlace, am_C_v, am_C_0, am_ue, if_true, if_false, eq_self, am_10, ite_not, Nat.reduceEqDiff, reduceIte, am_bI_t c1, am_bI_t h2]
        exact e
      · have key := am_loop (E := fun k => am_E X AM_X6_reach 31 [some (.ref 88), some (.int (nI i)), some (.int (nI f0)), some (.int (am_orf (aw_N (aw_us (Y 2) (Y 1) (A 2) (A 0) (A 6) i) (aw_ix (A 4)) (aw_ix (A 5)) f0 9) k)), some (.int (nI k))] [] (am_WH R Z (am_up A 9 F) Y)) (r := some (some (.int (am_orf (aw_N (aw_us (Y 2) (Y 1) (A 2) (A 0) (A 6) i) (aw_ix (A 4)) (aw_ix (A 5)) f0 9) 10)), am_WH R Z (am_up A 9 F) Y)) 10 (by
          try dsimp only
          rw [b_X6_reach_31, if_pos (show (10 : Int32) ≤ nI 10 from Int32.le_refl _), b_X6_reach_67]) (by
          intro k hk
          try dsimp only
          rw [b_X6_reach_31, if_neg (show ¬ (10 : Int32) ≤ nI k from nI_ge (a := k) (b := 10) (by omega) (by omega)), b_X6_reach_38, if_pos (am_in_nI hk (by omega)), am_cl (by omega), b_X6_reach_46, am_up_s A 9 F, hF k hk]
          rcases hd k hk with ⟨g1, g2, _⟩ | ⟨g1, g2⟩
          · rw [if_neg (by rw [Int32.le_iff_toInt_le, nI_toInt (by omega)]; show ¬ (1000000 : Int) ≤ _; omega), b_X6_reach_51, nI_1]
            rw [am_orf, if_pos g1]
          · rw [g2, if_pos (by decide), b_X6_reach_58, nI_1, Int32.or_zero]
            rw [am_orf, if_neg (by rw [g1]; decide)])
        try dsimp only at key
        simp only [d_X6_reach, b_X6_reach_0, b_X6_reach_5, b_X6_reach_8, b_X6_reach_10, b_X6_reach_14, b_X6_reach_17, b_X6_reach_20, b_X6_reach_26, b_X6_reach_38, b_X6_reach_46, b_X6_reach_51, b_X6_reach_58, b_X6_reach_67, s_misThere, s_misPlace, am_C_v, am_C_0, am_ue, if_true, if_false, eq_self, am_10, ite_not, Nat.reduceEqDiff, reduceIte, am_bI_t c2, am_bI_t h2, hfar]
        exact key
    · refine ⟨.int (-2), R, Z, A, Y, ?_, ?_, hI⟩
      · simp only [d_X5_reach, b_X5_reach_0, b_X5_reach_8, b_X5_reach_11, b_X5_reach_13, b_X5_reach_17, b_X5_reach_20, b_X5_reach_23, b_X5_reach_37, b_X5_reach_46, b_X5_reach_53, s_isThere, s_isPlace, am_C_v, am_C_0, am_ue, if_true, if_false, eq_self, am_10, ite_not, Nat.reduceEqDiff, reduceIte, am_bI_t c1, am_bI_f h2]
      · simp only [d_X6_reach, b_X6_reach_0, b_X6_reach_5, b_X6_reach_8, b_X6_reach_10, b_X6_reach_14, b_X6_reach_17, b_X6_reach_20, b_X6_reach_26, b_X6_reach_38, b_X6_reach_46, b_X6_reach_51, b_X6_reach_58, b_X6_reach_67, s_misThere, s_misPlace, am_C_v, am_C_0, am_ue, if_true, if_false, eq_self, am_10, ite_not, Nat.reduceEqDiff, reduceIte, am_bI_t c2, am_bI_f h2]
  · have c1 : ¬ am_hs (Z 1) a := fun z => h1 (q1.mp z)
    have c2 := fun z => h1 (by rw [v1.1]; exact q2.mp z)
    refine ⟨.int (-1), R, Z, A, Y, ?_, ?_, hI⟩
    · simp only [d_X5_reach, b_X5_reach_0, b_X5_reach_8, b_X5_reach_11, b_X5_reach_13, b_X5_reach_17, b_X5_reach_20, b_X5_reach_23, b_X5_reach_37, b_X5_reach_46, b_X5_reach_53, s_isThere, s_isPlace, am_C_v, am_C_0, am_ue, if_true, if_false, eq_self, am_10, ite_not, Nat.reduceEqDiff, reduceIte, am_bI_f c1]
    · simp only [d_X6_reach, b_X6_reach_0, b_X6_reach_5, b_X6_reach_8, b_X6_reach_10, b_X6_reach_14, b_X6_reach_17, b_X6_reach_20, b_X6_reach_26, b_X6_reach_38, b_X6_reach_46, b_X6_reach_51, b_X6_reach_58, b_X6_reach_67, s_misThere, s_misPlace, am_C_v, am_C_0, am_ue, if_true, if_false, eq_self, am_10, ite_not, Nat.reduceEqDiff, reduceIte, am_bI_f c2]
/-! ways -/
/-- the least of what stairs lead to, so far -/
def aw_mn (q : Nat → Bool) (O : Nat → Nat) : Nat → Option Nat
  | 0 => none
  | s + 1 => if q s = true then (match aw_mn q O s with | none => some (O s) | some m => if O s < m then some (O s) else some m) else aw_mn q O s
theorem aw_mn_some {q : Nat → Bool} {O : Nat → Nat} : ∀ {n m : Nat}, aw_mn q O n = some m → (∃ s, s < n ∧ q s = true ∧ O s = m) ∧ ∀ s, s < n → q s = true → m ≤ O s
  | 0, m, h => by cases h
  | n + 1, m, h => by
    rw [aw_mn] at h
    by_cases g : q n = true
    · rw [if_pos g] at h
      cases e : aw_mn q O n with
      | none =>
        rw [e] at h
        obtain rfl := Option.some.inj h
        refine ⟨⟨n, by omega, g, rfl⟩, fun s hs hq => ?_⟩
        rcases Nat.lt_or_ge s n with h2 | h2
        · exfalso
          exact aw_mn_none e s h2 hq
        · obtain rfl : s = n := by omega
          exact Nat.le_refl _
      | some m2 =>
        have ih := aw_mn_some e
        rw [e] at h
        dsimp only at h
        by_cases g2 : O n < m2
        · rw [if_pos g2] at h
          obtain rfl := Option.some.inj h
          refine ⟨⟨n, by omega, g, rfl⟩, fun s hs hq => ?_⟩
          rcases Nat.lt_or_ge s n with h2 | h2
          · exact Nat.le_trans (Nat.le_of_lt g2) (ih.2 s h2 hq)
          · obtain rfl : s = n := by omega
            exact Nat.le_refl _
        · rw [if_neg g2] at h
          obtain rfl := Option.some.inj h
          obtain ⟨s0, hs0, h3⟩ := ih.1
          refine ⟨⟨s0, by omega, h3⟩, fun s hs hq => ?_⟩
          rcases Nat.lt_or_ge s n with h2 | h2
          · exact ih.2 s h2 hq
          · obtain rfl : s = n := by omega
            omega
    · rw [if_neg g] at h
      have ih := aw_mn_some h
      obtain ⟨s0, hs0, h3⟩ := ih.1
      refine ⟨⟨s0, by omega, h3⟩, fun s hs hq => ?_⟩
      rcases Nat.lt_or_ge s n with h2 | h2
      · exact ih.2 s h2 hq
      · obtain rfl : s = n := by omega
        exact absurd hq g
where aw_mn_none {q : Nat → Bool} {O : Nat → Nat} : ∀ {n : Nat}, aw_mn q O n = none → ∀ s, s < n → ¬ q s = true
  | 0, _, s, hs => absurd hs (Nat.not_lt_zero s)
  | n + 1, h, s, hs => by
    rw [aw_mn] at h
    by_cases g : q n = true
    · rw [if_pos g] at h
      cases e : aw_mn q O n with
      | none => rw [e] at h; cases h
      | some m2 =>
        rw [e] at h
        dsimp only at h
        split at h <;> cases h
    · rw [if_neg g] at h
      rcases Nat.lt_or_ge s n with h2 | h2
      · exact aw_mn_none h s h2
      · obtain rfl : s = n := by omega
        exact g
def aw_mI : Option Nat → Int32
  | none => -6
  | some m => nI m
theorem op_ways (X : AMx) (a b c d : Int32) : am_OP X 68 135 [.int a, .int b, .int c, .int d] := by
  intro R Z A Y hI
  have v0 : Z 0 = Y 1 ∧ am_rn (Z 0) 0 18 := hI.1 0
  have v1 : Z 1 = Y 0 ∧ am_rn (Z 1) 0 127 := hI.1 1
  have v7 : ∀ i, i < 3 → R 0 i = A 2 i ∧ am_rn (R 0 i) (-9) 9 := hI.1 7
  have v8 : ∀ i, i < 7 → R 1 i = A 0 i ∧ am_rn (R 1 i) 0 2 := hI.1 8
  have v13 : ∀ i, i < 12 → R 6 i = A 4 i ∧ am_rn (R 6 i) 0 9 := hI.1 13
  have v14 : ∀ i, i < 12 → R 7 i = A 5 i ∧ am_rn (R 7 i) 0 9 := hI.1 14
  have v15 : ∀ i, i < 12 → R 8 i = A 6 i ∧ am_rn (R 8 i) (-9) 9 := hI.1 15
  have q1 := am_hs_bt v1.2 (k := 7) (by omega) (by omega) a
  have q2 := am_mh_bt (b := Y 0) (k := 7) (by omega) (m := 6) (by decide) a
  by_cases h1 : ∃ j, j < 7 ∧ a = nI j ∧ bt (Z 1) j = true
  · have c1 := q1.mpr h1
    have c2 := q2.mpr (by rw [← v1.1]; exact h1)
    by_cases h2 : 0 ≤ b ∧ b ≤ 9
    · by_cases h3 : 0 ≤ c ∧ c ≤ 9
      · by_cases h4 : 0 ≤ d ∧ d ≤ 1
        · obtain ⟨i, hi, rfl, _⟩ := h1
          obtain ⟨p0, hp0, rfl⟩ := am_ix h2 (n := 10) (by decide) (by omega)
          obtain ⟨t0, ht0, rfl⟩ := am_ix h3 (n := 10) (by decide) (by omega)
          have sm := aw_same hI hi
          have A4 : ∀ s, s < 12 → am_rn (A 4 s) 0 9 := fun k hk => by rw [← (v13 k hk).1]; exact (v13 k hk).2
          have A5 : ∀ s, s < 12 → am_rn (A 5 s) 0 9 := fun k hk => by rw [← (v14 k hk).1]; exact (v14 k hk).2
          have A6 : ∀ s, s < 12 → am_rn (A 6 s) (-9) 9 := fun k hk => by rw [← (v15 k hk).1]; exact (v15 k hk).2
          have A0 : ∀ k, k < 7 → am_rn (A 0 k) 0 2 := fun k hk => by rw [← (v8 k hk).1]; exact (v8 k hk).2
          have A2 : ∀ k, k < 3 → am_rn (A 2 k) (-9) 9 := fun c hc => by rw [← (v7 c hc).1]; exact (v7 c hc).2
          have Y1 : am_rn (Y 1) 0 18 := by rw [← v0.1]; exact v0.2
          obtain ⟨F, f, hF, hd, hfar⟩ := s_layFar X R Z A Y hi ht0 A0 A2 Y1 A4 A5 A6
          have hfr : ∀ s, s < 12 → aw_ix (A 4) s < 10 ∧ A 4 s = nI (aw_ix (A 4) s) := fun s hs => aw_ix_of (A4 s hs)
          have hto : ∀ s, s < 12 → aw_ix (A 5) s < 10 ∧ A 5 s = nI (aw_ix (A 5) s) := fun s hs => aw_ix_of (A5 s hs)
          generalize hfrg : aw_ix (A 4) = fr at sm hd hfr
          generalize htog : aw_ix (A 5) = to at sm hd hto
          -- the class' search
          have hus : ∀ s, aw_us (Y 2) (Y 1) (A 2) (A 0) (A 6) i s = (bt (Y 2) s && decide (am_bs (Y 1) (am_dw (A 2) (A 0) i) (A 6 s))) := fun _ => rfl
          generalize aw_us (Y 2) (Y 1) (A 2) (A 0) (A 6) i = us at sm hd hus
          have wider : ∀ k w, (∀ p, p < 32 → bt w p = aw_N us fr to t0 k p) → ∃ w2, (∀ p, p < 32 → bt w2 p = aw_N us fr to t0 (k + 1) p) ∧ am_D X 42 [.ref 1, .int w, .int (nI i)] (am_WH R Z A Y) = some (some (.int w2), am_WH R Z A Y) := by
            intro k w hw
            obtain ⟨w2, hw2, e2⟩ := s_stepsFrom X R Z A Y hi (fun k hk => (v8 k hk).2) (fun c hc => (v7 c hc).2) v0.2 (fun k hk => (v13 k hk).2) (fun k hk => (v14 k hk).2) (fun k hk => (v15 k hk).2) w
            exact ⟨w2, fun p hp => (hw2 p hp).trans (aw_st_cong hw sm p hp), e2⟩
          have search : ∀ k, k ≤ 9 → (∀ j, j ≤ k → aw_N us fr to t0 j p0 = false) → ∃ w y7, (∀ p, p < 32 → bt w p = aw_N us fr to t0 k p) ∧ am_E X AM_X5_ways 65 [some (.ref 0), some (.int (nI i)), some (.int (nI p0)), some (.int (nI t0)), some (.int d), some (.int ((1 : Int32) <<< (nI t0 &&& 31))), some (.int 1), none] [] (am_WH R Z A Y) = am_E X AM_X5_ways 65 [some (.ref 0), some (.int (nI i)), some (.int (nI p0)), some (.int (nI t0)), some (.int d), some (.int w), some (.int (nI (k + 1))), y7] [] (am_WH R Z A Y) := by
            intro k
            induction k with
            | zero => exact fun _ _ => ⟨_, none, fun p hp => b_bit t0 (by omega) hp, rfl⟩
            | succ k ih =>
              intro hk hN
              obtain ⟨w, y7, hw, e⟩ := ih (by omega) (fun j hj => hN j (by omega))
              obtain ⟨w2, hw2, e2⟩ := wider k w hw
              refine ⟨w2, some (.int w2), hw2, ?_⟩
              have hb : ¬ am_hs w2 (nI p0) := fun z => by
                have := (am_hs_nI (by omega)).mp z
                rw [hw2 p0 (by omega), hN (k + 1) (Nat.le_refl _)] at this
                cases this
              rw [e, b_X5_ways_65, if_neg (show ¬ (10 : Int32) ≤ nI (k + 1) from nI_ge (a := k + 1) (b := 10) (by omega) (by omega)), b_X5_ways_72, e2, am_C_v, b_X5_ways_82, s_has, am_C_v, b_X5_ways_90, am_bI_f hb, if_pos rfl, b_X5_ways_121, nI_1]
          by_cases hpt : p0 = t0
          · subst hpt
            have h0 : F p0 = 0 := by
              rw [hF p0 hp0]
              rcases hd p0 hp0 with ⟨_, _, _, g⟩ | ⟨g, _⟩
              · have : f p0 = 0 := by
                  rcases Nat.eq_zero_or_pos (f p0) with h | h
                  · exact h
                  · have := g 0 h
                    rw [show aw_N us fr to p0 0 p0 = true from decide_eq_true rfl] at this
                    cases this
                rw [this]; rfl
              · have := aw_N_le (us := us) (fr := fr) (to := to) (t := p0) (j := 0) (k := 9) (p := p0) (by omega) (decide_eq_true rfl)
                rw [g] at this
                cases this
            refine ⟨.int (if d = 0 then 0 else -6), R, Z, am_up A 9 F, Y, ?_, ?_, am_INV_9 hI⟩
            · by_cases hd0 : d = 0
              · subst hd0
                simp only [d_X5_ways, b_X5_ways_0, b_X5_ways_8, b_X5_ways_11, b_X5_ways_13, b_X5_ways_17, b_X5_ways_20, b_X5_ways_24, b_X5_ways_27, b_X5_ways_34, b_X5_ways_37, b_X5_ways_40, b_X5_ways_45, b_X5_ways_50, b_X5_ways_54, b_X5_ways_57, b_X5_ways_72, b_X5_ways_82, b_X5_ways_90, b_X5_ways_93, b_X5_ways_98, b_X5_ways_103, b_X5_ways_114, b_X5_ways_120, b_X5_ways_121, b_X5_ways_131, s_isThere, s_isPlace, s_isIn, am_C_v, am_C_0, am_ue, if_true, if_false, eq_self, am_10, ite_not, Nat.reduceEqDiff, reduceIte, am_bI_t c1, am_bI_t h2, am_bI_t h4]
              · simp only [d_X5_ways, b_X5_ways_0, b_X5_ways_8, b_X5_ways_11, b_X5_ways_13, b_X5_ways_17, b_X5_ways_20, b_X5_ways_24, b_X5_ways_27, b_X5_ways_34, b_X5_ways_37, b_X5_ways_40, b_X5_ways_45, b_X5_ways_50, b_X5_ways_54, b_X5_ways_57, b_X5_ways_72, b_X5_ways_82, b_X5_ways_90, b_X5_ways_93, b_X5_ways_98, b_X5_ways_103, b_X5_ways_114, b_X5_ways_120, b_X5_ways_121, b_X5_ways_131, s_isThere, s_isPlace, s_isIn, am_C_v, am_C_0, am_ue, if_true, if_false, eq_self, am_10, ite_not, Nat.reduceEqDiff, reduceIte, am_bI_t c1, am_bI_t h2, am_bI_t h4, hd0]
            · by_cases hd0 : d = 0
              · subst hd0
                simp only [d_X6_ways, b_X6_ways_0, b_X6_ways_5, b_X6_ways_8, b_X6_ways_10, b_X6_ways_14, b_X6_ways_17, b_X6_ways_21, b_X6_ways_24, b_X6_ways_31, b_X6_ways_34, b_X6_ways_37, b_X6_ways_43, b_X6_ways_49, b_X6_ways_54, b_X6_ways_57, b_X6_ways_62, b_X6_ways_68, b_X6_ways_69, b_X6_ways_83, b_X6_ways_88, b_X6_ways_97, b_X6_ways_100, b_X6_ways_108, b_X6_ways_114, b_X6_ways_117, b_X6_ways_120, b_X6_ways_127, b_X6_ways_131, b_X6_ways_138, b_X6_ways_142, b_X6_ways_149, b_X6_ways_153, b_X6_ways_160, b_X6_ways_163, b_X6_ways_170, b_X6_ways_179, b_X6_ways_187, b_X6_ways_190, b_X6_ways_195, b_X6_ways_202, b_X6_ways_207, b_X6_ways_211, b_X6_ways_217, s_misThere, s_misPlace, s_in, am_C_v, am_bI_t c2, am_bI_t h2, am_bI_t h4, hfar, if_pos (am_in_nI hp0 (by omega : 10 < 2 ^ 31)), am_cl (by omega : p0 < 2 ^ 31), am_up_s, h0, am_C_v, am_C_0, am_ue, if_true, if_false, eq_self, am_10, ite_not, Nat.reduceEqDiff, reduceIte, if_pos (by decide : (0 : Int32) < 1000000)]
              · simp only [d_X6_ways, b_X6_ways_0, b_X6_ways_5, b_X6_ways_8, b_X6_ways_10, b_X6_ways_14, b_X6_ways_17, b_X6_ways_21, b_X6_ways_24, b_X6_ways_31, b_X6_ways_34, b_X6_ways_37, b_X6_ways_43, b_X6_ways_49, b_X6_ways_54, b_X6_ways_57, b_X6_ways_62, b_X6_ways_68, b_X6_ways_69, b_X6_ways_83, b_X6_ways_88, b_X6_ways_97, b_X6_ways_100, b_X6_ways_108, b_X6_ways_114, b_X6_ways_117, b_X6_ways_120, b_X6_ways_127, b_X6_ways_131, b_X6_ways_138, b_X6_ways_142, b_X6_ways_149, b_X6_ways_153, b_X6_ways_160, b_X6_ways_163, b_X6_ways_170, b_X6_ways_179, b_X6_ways_187, b_X6_ways_190, b_X6_ways_195, b_X6_ways_202, b_X6_ways_207, b_X6_ways_211, b_X6_ways_217, s_misThere, s_misPlace, s_in, am_C_v, am_bI_t c2, am_bI_t h2, am_bI_t h4, hfar, if_pos (am_in_nI hp0 (by omega : 10 < 2 ^ 31)), am_cl (by omega : p0 < 2 ^ 31), am_up_s, h0, am_C_v, am_C_0, am_ue, if_true, if_false, eq_self, am_10, ite_not, Nat.reduceEqDiff, reduceIte, if_pos (by decide : (0 : Int32) < 1000000), hd0]
                rw [b_X6_ways_76, if_neg (by decide), b_X6_ways_83, if_pos rfl, b_X6_ways_217]
          · have hne : ¬ nI p0 = nI t0 := fun z => hpt (aw_inj (by omega) (by omega) z)
            rcases hd p0 hp0 with ⟨g9, gle, gN, gmin⟩ | ⟨g9, gf⟩
            · obtain ⟨D, hD⟩ : ∃ D, f p0 = D + 1 := by
                rcases Nat.eq_zero_or_pos (f p0) with h | h
                · rw [h] at gN
                  exact absurd (of_decide_eq_true gN) hpt
                · exact ⟨f p0 - 1, by omega⟩
              have hND : aw_N us fr to t0 D p0 = false := gmin D (by omega)
              have hN1 : aw_N us fr to t0 (D + 1) p0 = true := by rw [← hD]; exact gN
              obtain ⟨w, y7, hw, e⟩ := search D (by omega) (fun j hj => gmin j (by omega))
              obtain ⟨w2, hw2, e2⟩ := wider D w hw
              obtain ⟨y, hy0, ey⟩ := s_stepsFrom X R Z A Y hi (fun k hk => (v8 k hk).2) (fun c hc => (v7 c hc).2) v0.2 (fun k hk => (v13 k hk).2) (fun k hk => (v14 k hk).2) (fun k hk => (v15 k hk).2) ((1 : Int32) <<< (nI p0 &&& 31))
              have hy : ∀ p, p < 32 → bt y p = aw_st us fr to (fun q => decide (q = p0)) 12 p := fun p hp => (hy0 p hp).trans (aw_st_cong (fun p hp => b_bit p0 (by omega) hp) sm p hp)
              have fge : ∀ p, p < 10 → aw_N us fr to t0 D p = true → (∃ s, s < 12 ∧ us s = true ∧ ((to s = p ∧ fr s = p0) ∨ (fr s = p ∧ to s = p0))) → f p = D := by
                intro p hp hN ⟨s, hs, hu, hed⟩
                rcases hd p hp with ⟨_, _, g3, g4⟩ | ⟨g1, _⟩
                · rcases Nat.lt_trichotomy (f p) D with h | h | h
                  · exfalso
                    have : aw_N us fr to t0 (f p + 1) p0 = true := aw_N_iff.mpr (Or.inr ⟨s, hs, hu, by
                      rcases hed with ⟨x1, x2⟩ | ⟨x1, x2⟩
                      · exact Or.inr ⟨x2, by rw [x1]; exact g3⟩
                      · exact Or.inl ⟨x2, by rw [x1]; exact g3⟩⟩)
                    rw [gmin (f p + 1) (by omega)] at this
                    cases this
                  · exact h
                  · rw [g4 D h] at hN
                    cases hN
                · have := aw_N_le (show D ≤ 9 by omega) hN
                  rw [g1] at this
                  cases this
              have fN : ∀ p, p < 10 → f p = D → aw_N us fr to t0 D p = true := by
                intro p hp hf
                rcases hd p hp with ⟨_, _, g3, _⟩ | ⟨_, g1⟩
                · rw [hf] at g3; exact g3
                · omega
              have fb : ∀ p, p < 10 → f p ≤ 1000000 := by
                intro p hp
                rcases hd p hp with ⟨_, g2, _, _⟩ | ⟨_, g1⟩ <;> omega
              generalize hO : (fun s => if fr s = p0 then to s else fr s) = O
              have hOs : ∀ s, O s = if fr s = p0 then to s else fr s := fun s => by rw [← hO]
              generalize hq : (fun s => us s && (decide (fr s = p0) || decide (to s = p0)) && decide (f (O s) = D)) = q
              have hqs : ∀ s, q s = (us s && (decide (fr s = p0) || decide (to s = p0)) && decide (f (O s) = D)) := fun s => by rw [← hq]
              have hO10 : ∀ s, s < 12 → O s < 10 := fun s hs => by
                rw [hOs]
                split
                · exact (hto s hs).1
                · exact (hfr s hs).1
              have hQ : ∀ p, p < 10 → (aw_st us fr to (fun q => decide (q = p0)) 12 p = true ∧ aw_N us fr to t0 D p = true ↔ ∃ s, s < 12 ∧ q s = true ∧ O s = p) := by
                intro p hp
                constructor
                · intro ⟨z1, z2⟩
                  have hne2 : p ≠ p0 := fun z => by rw [z, hND] at z2; cases z2
                  rcases aw_st_iff.mp z1 with z | ⟨s, hs, hu, z⟩
                  · exact absurd (of_decide_eq_true z) hne2
                  · rw [decide_eq_true_eq, decide_eq_true_eq] at z
                    have hfD := fge p hp z2 ⟨s, hs, hu, z⟩
                    have hOp : O s = p := by
                      rw [hOs]
                      rcases z with ⟨x1, x2⟩ | ⟨x1, x2⟩
                      · rw [if_pos x2, x1]
                      · rw [if_neg (by rw [x1]; exact hne2), x1]
                    refine ⟨s, hs, ?_, hOp⟩
                    rw [hqs, hu, hOp, decide_eq_true hfD]
                    rcases z with ⟨x1, x2⟩ | ⟨x1, x2⟩
                    · simp [x2]
                    · simp [x2]
                · intro ⟨s, hs, h1, h2⟩
                  rw [hqs, Bool.and_eq_true, Bool.and_eq_true, Bool.or_eq_true, decide_eq_true_eq, decide_eq_true_eq, decide_eq_true_eq] at h1
                  obtain ⟨⟨x1, x2⟩, x3⟩ := h1
                  rw [h2] at x3
                  refine ⟨aw_st_iff.mpr (Or.inr ⟨s, hs, x1, ?_⟩), fN p hp x3⟩
                  rw [decide_eq_true_eq, decide_eq_true_eq]
                  rw [hOs] at h2
                  by_cases x4 : fr s = p0
                  · rw [if_pos x4] at h2
                    exact Or.inl ⟨h2, x4⟩
                  · rw [if_neg x4] at h2
                    exact Or.inr ⟨h2, x2.resolve_left x4⟩
              obtain ⟨W, hW⟩ : ∃ W, aw_mn q O 12 = some W := by
                cases e : aw_mn q O 12 with
                | some W => exact ⟨W, rfl⟩
                | none =>
                  exfalso
                  rcases aw_N_iff.mp hN1 with z | ⟨s, hs, hu, z⟩
                  · rw [hND] at z; cases z
                  · have : ∃ p, p < 10 ∧ aw_st us fr to (fun q => decide (q = p0)) 12 p = true ∧ aw_N us fr to t0 D p = true := by
                      rcases z with ⟨x1, x2⟩ | ⟨x1, x2⟩
                      · exact ⟨fr s, (hfr s hs).1, aw_st_iff.mpr (Or.inr ⟨s, hs, hu, Or.inr ⟨rfl, decide_eq_true x1⟩⟩), x2⟩
                      · exact ⟨to s, (hto s hs).1, aw_st_iff.mpr (Or.inr ⟨s, hs, hu, Or.inl ⟨rfl, decide_eq_true x1⟩⟩), x2⟩
                    obtain ⟨p, hp, z2⟩ := this
                    obtain ⟨s2, hs2, h5, _⟩ := (hQ p hp).mp z2
                    exact aw_mn_some.aw_mn_none e s2 hs2 h5
              obtain ⟨⟨sW, hsW, hqW, hOW⟩, hmin⟩ := aw_mn_some hW
              have hW10 : W < 10 := by rw [← hOW]; exact hO10 sW hsW
              have hWQ := (hQ W hW10).mpr ⟨sW, hsW, hqW, hOW⟩
              refine ⟨.int (if d = 0 then nI (D + 1) else nI W), R, Z, am_up A 9 F, Y, ?_, ?_, am_INV_9 hI⟩
              · have l := s_leastOf X (am_WH R Z A Y) (x := y &&& w) (i := W) (by omega) (by rw [b_and, hy W (by omega), hw W (by omega), hWQ.1, hWQ.2]; rfl) (fun j hj => by
                  cases e : bt (y &&& w) j
                  · rfl
                  · exfalso
                    rw [b_and, hy j (by omega), hw j (by omega), Bool.and_eq_true] at e
                    obtain ⟨s, hs, h5, h6⟩ := (hQ j (by omega)).mp e
                    have := hmin s hs h5
                    omega)
                simp only [d_X5_ways, b_X5_ways_0, b_X5_ways_8, b_X5_ways_11, b_X5_ways_13, b_X5_ways_17, b_X5_ways_20, b_X5_ways_24, b_X5_ways_27, b_X5_ways_34, b_X5_ways_37, b_X5_ways_40, b_X5_ways_45, b_X5_ways_50, b_X5_ways_54, b_X5_ways_57, b_X5_ways_72, b_X5_ways_82, b_X5_ways_90, b_X5_ways_93, b_X5_ways_98, b_X5_ways_103, b_X5_ways_114, b_X5_ways_120, b_X5_ways_121, b_X5_ways_131, s_isThere, s_isPlace, s_isIn, am_C_v, am_C_0, am_ue, if_true, if_false, eq_self, am_10, ite_not, Nat.reduceEqDiff, reduceIte, am_bI_t c1, am_bI_t h2, am_bI_t h3, am_bI_t h4, hne]
                refine e.trans ?_
                rw [b_X5_ways_65, if_neg (show ¬ (10 : Int32) ≤ nI (D + 1) from nI_ge (a := D + 1) (b := 10) (by omega) (by omega)), b_X5_ways_72, e2, am_C_v, b_X5_ways_82, s_has, am_C_v, b_X5_ways_90, am_bI_t ((am_hs_nI (by omega)).mpr (by rw [hw2 p0 (by omega), hN1])), if_neg (by decide), b_X5_ways_93]
                by_cases hd0 : d = 0
                · rw [if_pos hd0, if_pos hd0, b_X5_ways_98]
                · rw [if_neg hd0, if_neg hd0, b_X5_ways_103, ey, am_C_v, b_X5_ways_114, l, am_C_v, b_X5_ways_120]
              · have hF0 : F p0 = nI (D + 1) := by rw [hF p0 hp0, hD]
                have lt : nI (D + 1) < (1000000 : Int32) := by
                  rw [Int32.lt_iff_toInt_lt, nI_toInt (by omega)]
                  show _ < (1000000 : Int)
                  omega
                have key : ∀ k s y7, s + k = 12 → am_E X AM_X6_ways 76 [some (.ref 88), some (.int (nI i)), some (.int (nI p0)), some (.int (nI t0)), some (.int d), some (.int (aw_mI (aw_mn q O s))), some (.int (nI s)), y7] [] (am_WH R Z (am_up A 9 F) Y) = some (some (.int (aw_mI (aw_mn q O 12))), am_WH R Z (am_up A 9 F) Y) := by
                  intro k
                  induction k with
                  | zero =>
                    intro s y7 hs
                    obtain rfl : s = 12 := by omega
                    rw [b_X6_ways_76, if_pos (show (12 : Int32) ≤ nI 12 from Int32.le_refl _), b_X6_ways_217]
                  | succ k ih =>
                    intro s y7 hs
                    have hs12 : s < 12 := by omega
                    have skip : q s ≠ true → ∀ y7, am_E X AM_X6_ways 76 [some (.ref 88), some (.int (nI i)), some (.int (nI p0)), some (.int (nI t0)), some (.int d), some (.int (aw_mI (aw_mn q O s))), some (.int (nI (s + 1))), y7] [] (am_WH R Z (am_up A 9 F) Y) = some (some (.int (aw_mI (aw_mn q O 12))), am_WH R Z (am_up A 9 F) Y) := by
                      intro hn y7
                      have ih' := ih (s + 1) y7 (by omega)
                      rw [aw_mn, if_neg hn] at ih'
                      exact ih'
                    have tail : us s = true → (fr s = p0 ∨ to s = p0) → am_E X AM_X6_ways 179 [some (.ref 88), some (.int (nI i)), some (.int (nI p0)), some (.int (nI t0)), some (.int d), some (.int (aw_mI (aw_mn q O s))), some (.int (nI s)), some (.int (nI (O s)))] [.int (F (O s))] (am_WH R Z (am_up A 9 F) Y) = some (some (.int (aw_mI (aw_mn q O 12))), am_WH R Z (am_up A 9 F) Y) := by
                      intro hu hed
                      have hO1 := hO10 s hs12
                      have fb1 := fb (O s) hO1
                      have hedb : (decide (fr s = p0) || decide (to s = p0)) = true := by
                        rw [Bool.or_eq_true, decide_eq_true_eq, decide_eq_true_eq]; exact hed
                      rw [b_X6_ways_179, if_pos (am_in_nI hp0 (by omega)), am_cl (by omega), b_X6_ways_187, am_up_s A 9 F, hF0, hF (O s) hO1, nI_1]
                      by_cases g : f (O s) = D
                      · have hqt : q s = true := by rw [hqs, hu, hedb, decide_eq_true g]; rfl
                        rw [g, if_pos rfl, b_X6_ways_190]
                        have ih' := ih (s + 1) (some (.int (nI (O s)))) (by omega)
                        rw [aw_mn, if_pos hqt] at ih'
                        cases em : aw_mn q O s with
                        | none =>
                          rw [em] at ih'
                          rw [if_pos (show aw_mI none < 0 by decide), b_X6_ways_202, nI_1]
                          exact ih'
                        | some m =>
                          have hm10 : m < 10 := by
                            obtain ⟨⟨s5, hs5, _, h7⟩, _⟩ := aw_mn_some em
                            rw [← h7]; exact hO10 s5 (by omega)
                          rw [em] at ih'
                          dsimp only at ih'
                          rw [if_neg (show ¬ aw_mI (some m) < 0 from nI_pos (by omega)), b_X6_ways_195]
                          by_cases g2 : O s < m
                          · rw [if_pos g2] at ih'
                            rw [if_neg (show ¬ aw_mI (some m) ≤ nI (O s) from nI_ge g2 (by omega)), b_X6_ways_202, nI_1]
                            exact ih'
                          · rw [if_neg g2] at ih'
                            rw [if_pos (show aw_mI (some m) ≤ nI (O s) from nI_le (by omega) (by omega)), b_X6_ways_207, nI_1]
                            exact ih'
                      · rw [if_neg (fun z => g (by have := aw_inj (by omega) (by omega) z; omega)), b_X6_ways_207, nI_1]
                        exact skip (by rw [hqs, decide_eq_false g]; simp) _
                    rw [b_X6_ways_76, if_neg (show ¬ (12 : Int32) ≤ nI s from nI_ge (a := s) (b := 12) (by omega) (by omega)), b_X6_ways_83, if_neg hne, b_X6_ways_88, s_mhas, am_C_v, b_X6_ways_97]
                    by_cases g1 : bt (Y 2) s = true
                    · rw [am_bI_t ((b_one s (by omega) _).mpr g1), if_neg (by decide), b_X6_ways_100, if_pos (am_in_nI hs12 (by omega)), am_cl (by omega), show am_up A 9 F 6 s = A 6 s from rfl, b_X6_ways_108, if_pos (am_in_nI (n := 32) (i := i) (by omega) (by omega)), am_cl (by omega), b_X6_ways_114, s_mbear X R Z (am_up A 9 F) Y 0 i (A0 i hi) A2 Y1 (A6 s hs12), am_C_v, b_X6_ways_117]
                      show (if am_bI (am_bs (Y 1) (am_dw (A 2) (A 0) i) (A 6 s)) = 0 then _ else _) = _
                      by_cases g2 : am_bs (Y 1) (am_dw (A 2) (A 0) i) (A 6 s)
                      · have gu : us s = true := by rw [hus, g1, decide_eq_true g2]; rfl
                        obtain ⟨f10, ef⟩ := hfr s hs12
                        obtain ⟨t10, et⟩ := hto s hs12
                        rw [am_bI_t g2, if_neg (by decide), b_X6_ways_120, if_pos (am_in_nI hs12 (by omega)), am_cl (by omega), show am_up A 9 F 4 s = A 4 s from rfl, ef, b_X6_ways_127]
                        by_cases g3 : fr s = p0
                        · have hO3 : O s = to s := by rw [hOs, if_pos g3]
                          have tl := tail gu (Or.inl g3)
                          rw [hO3] at tl
                          rw [if_pos (congrArg nI g3), b_X6_ways_142, if_pos (am_in_nI hs12 (by omega)), am_cl (by omega), show am_up A 9 F 4 s = A 4 s from rfl, ef, b_X6_ways_149, if_pos (congrArg nI g3), b_X6_ways_153, if_pos (am_in_nI hs12 (by omega)), am_cl (by omega), show am_up A 9 F 5 s = A 5 s from rfl, et, b_X6_ways_160, if_pos (am_in_nI t10 (by omega)), am_cl (by omega), am_up_s A 9 F]
                          exact tl
                        · have hO3 : O s = fr s := by rw [hOs, if_neg g3]
                          have g3' : ¬ nI (fr s) = nI p0 := fun z => g3 (aw_inj (by omega) (by omega) z)
                          rw [if_neg g3', b_X6_ways_131, if_pos (am_in_nI hs12 (by omega)), am_cl (by omega), show am_up A 9 F 5 s = A 5 s from rfl, et, b_X6_ways_138]
                          by_cases g4 : to s = p0
                          · have tl := tail gu (Or.inr g4)
                            rw [hO3] at tl
                            rw [if_pos (congrArg nI g4), b_X6_ways_142, if_pos (am_in_nI hs12 (by omega)), am_cl (by omega), show am_up A 9 F 4 s = A 4 s from rfl, ef, b_X6_ways_149, if_neg g3', b_X6_ways_163, if_pos (am_in_nI hs12 (by omega)), am_cl (by omega), show am_up A 9 F 4 s = A 4 s from rfl, ef, b_X6_ways_170, if_pos (am_in_nI f10 (by omega)), am_cl (by omega), am_up_s A 9 F]
                            exact tl
                          · rw [if_neg (fun z => g4 (aw_inj (by omega) (by omega) z)), b_X6_ways_211, nI_1]
                            exact skip (by rw [hqs, decide_eq_false g3, decide_eq_false g4]; simp) _
                      · have gu : us s = false := by rw [hus, decide_eq_false g2]; simp
                        rw [am_bI_f g2, if_pos rfl, b_X6_ways_211, nI_1]
                        exact skip (by rw [hqs, gu]; simp) _
                    · have gu : us s = false := by rw [hus, Bool.eq_false_iff.mpr g1]; rfl
                      rw [am_bI_f (fun z => g1 ((b_one s (by omega) _).mp z)), if_pos rfl, b_X6_ways_211, nI_1]
                      exact skip (by rw [hqs, gu]; simp) _
                by_cases hd0 : d = 0
                · subst hd0
                  simp only [d_X6_ways, b_X6_ways_0, b_X6_ways_5, b_X6_ways_8, b_X6_ways_10, b_X6_ways_14, b_X6_ways_17, b_X6_ways_21, b_X6_ways_24, b_X6_ways_31, b_X6_ways_34, b_X6_ways_37, b_X6_ways_43, b_X6_ways_49, b_X6_ways_54, b_X6_ways_57, b_X6_ways_62, b_X6_ways_68, b_X6_ways_69, b_X6_ways_83, b_X6_ways_88, b_X6_ways_97, b_X6_ways_100, b_X6_ways_108, b_X6_ways_114, b_X6_ways_117, b_X6_ways_120, b_X6_ways_127, b_X6_ways_131, b_X6_ways_138, b_X6_ways_142, b_X6_ways_149, b_X6_ways_153, b_X6_ways_160, b_X6_ways_163, b_X6_ways_170, b_X6_ways_179, b_X6_ways_187, b_X6_ways_190, b_X6_ways_195, b_X6_ways_202, b_X6_ways_207, b_X6_ways_211, b_X6_ways_217, s_misThere, s_misPlace, s_in, am_C_v, am_C_0, am_bI_t c2, am_bI_t h2, am_bI_t h3, am_bI_t h4, hfar, if_pos (am_in_nI hp0 (by omega : 10 < 2 ^ 31)), am_cl (by omega : p0 < 2 ^ 31), am_up_s, hF0, am_C_v, am_C_0, am_ue, if_true, if_false, eq_self, am_10, ite_not, Nat.reduceEqDiff, reduceIte, if_pos lt]
                · have kk := key 12 0 none (by omega)
                  simp only [d_X6_ways, b_X6_ways_0, b_X6_ways_5, b_X6_ways_8, b_X6_ways_10, b_X6_ways_14, b_X6_ways_17, b_X6_ways_21, b_X6_ways_24, b_X6_ways_31, b_X6_ways_34, b_X6_ways_37, b_X6_ways_43, b_X6_ways_49, b_X6_ways_54, b_X6_ways_57, b_X6_ways_62, b_X6_ways_68, b_X6_ways_69, b_X6_ways_83, b_X6_ways_88, b_X6_ways_97, b_X6_ways_100, b_X6_ways_108, b_X6_ways_114, b_X6_ways_117, b_X6_ways_120, b_X6_ways_127, b_X6_ways_131, b_X6_ways_138, b_X6_ways_142, b_X6_ways_149, b_X6_ways_153, b_X6_ways_160, b_X6_ways_163, b_X6_ways_170, b_X6_ways_179, b_X6_ways_187, b_X6_ways_190, b_X6_ways_195, b_X6_ways_202, b_X6_ways_207, b_X6_ways_211, b_X6_ways_217, s_misThere, s_misPlace, s_in, am_C_v, am_C_0, am_bI_t c2, am_bI_t h2, am_bI_t h3, am_bI_t h4, hfar, if_pos (am_in_nI hp0 (by omega : 10 < 2 ^ 31)), am_cl (by omega : p0 < 2 ^ 31), am_up_s, hF0, am_C_v, am_C_0, am_ue, if_true, if_false, eq_self, am_10, ite_not, Nat.reduceEqDiff, reduceIte, if_pos lt, hd0]
                  rw [hW] at kk
                  exact kk
            · refine ⟨.int (-6), R, Z, am_up A 9 F, Y, ?_, ?_, am_INV_9 hI⟩
              · obtain ⟨w, y7, hw, e⟩ := search 9 (Nat.le_refl _) (fun j hj => by
                  cases e : aw_N us fr to t0 j p0
                  · rfl
                  · have := aw_N_le hj e
                    rw [g9] at this
                    cases this)
                simp only [d_X5_ways, b_X5_ways_0, b_X5_ways_8, b_X5_ways_11, b_X5_ways_13, b_X5_ways_17, b_X5_ways_20, b_X5_ways_24, b_X5_ways_27, b_X5_ways_34, b_X5_ways_37, b_X5_ways_40, b_X5_ways_45, b_X5_ways_50, b_X5_ways_54, b_X5_ways_57, b_X5_ways_72, b_X5_ways_82, b_X5_ways_90, b_X5_ways_93, b_X5_ways_98, b_X5_ways_103, b_X5_ways_114, b_X5_ways_120, b_X5_ways_121, b_X5_ways_131, s_isThere, s_isPlace, s_isIn, am_C_v, am_C_0, am_ue, if_true, if_false, eq_self, am_10, ite_not, Nat.reduceEqDiff, reduceIte, am_bI_t c1, am_bI_t h2, am_bI_t h3, am_bI_t h4, hne]
                refine e.trans ?_
                rw [b_X5_ways_65, if_pos (show (10 : Int32) ≤ nI (9 + 1) from Int32.le_refl _), b_X5_ways_131]
              · simp only [d_X6_ways, b_X6_ways_0, b_X6_ways_5, b_X6_ways_8, b_X6_ways_10, b_X6_ways_14, b_X6_ways_17, b_X6_ways_21, b_X6_ways_24, b_X6_ways_31, b_X6_ways_34, b_X6_ways_37, b_X6_ways_43, b_X6_ways_49, b_X6_ways_54, b_X6_ways_57, b_X6_ways_62, b_X6_ways_68, b_X6_ways_69, b_X6_ways_83, b_X6_ways_88, b_X6_ways_97, b_X6_ways_100, b_X6_ways_108, b_X6_ways_114, b_X6_ways_117, b_X6_ways_120, b_X6_ways_127, b_X6_ways_131, b_X6_ways_138, b_X6_ways_142, b_X6_ways_149, b_X6_ways_153, b_X6_ways_160, b_X6_ways_163, b_X6_ways_170, b_X6_ways_179, b_X6_ways_187, b_X6_ways_190, b_X6_ways_195, b_X6_ways_202, b_X6_ways_207, b_X6_ways_211, b_X6_ways_217, s_misThere, s_misPlace, s_in, am_C_v, am_C_0, am_bI_t c2, am_bI_t h2, am_bI_t h3, am_bI_t h4, hfar, if_pos (am_in_nI hp0 (by omega : 10 < 2 ^ 31)), am_cl (by omega : p0 < 2 ^ 31), am_up_s, hF p0 hp0, gf, am_C_v, am_C_0, am_ue, if_true, if_false, eq_self, am_10, ite_not, Nat.reduceEqDiff, reduceIte, if_neg (by decide : ¬ nI 1000000 < 1000000)]
        · refine ⟨.int (-2), R, Z, A, Y, ?_, ?_, hI⟩
          · simp only [d_X5_ways, b_X5_ways_0, b_X5_ways_8, b_X5_ways_11, b_X5_ways_13, b_X5_ways_17, b_X5_ways_20, b_X5_ways_24, b_X5_ways_27, b_X5_ways_34, b_X5_ways_37, b_X5_ways_40, b_X5_ways_45, b_X5_ways_50, b_X5_ways_54, b_X5_ways_57, b_X5_ways_72, b_X5_ways_82, b_X5_ways_90, b_X5_ways_93, b_X5_ways_98, b_X5_ways_103, b_X5_ways_114, b_X5_ways_120, b_X5_ways_121, b_X5_ways_131, s_isThere, s_isPlace, s_isIn, am_C_v, am_C_0, am_ue, if_true, if_false, eq_self, am_10, ite_not, Nat.reduceEqDiff, reduceIte, am_bI_t c1, am_bI_t h2, am_bI_t h3, am_bI_f h4]
          · simp only [d_X6_ways, b_X6_ways_0, b_X6_ways_5, b_X6_ways_8, b_X6_ways_10, b_X6_ways_14, b_X6_ways_17, b_X6_ways_21, b_X6_ways_24, b_X6_ways_31, b_X6_ways_34, b_X6_ways_37, b_X6_ways_43, b_X6_ways_49, b_X6_ways_54, b_X6_ways_57, b_X6_ways_62, b_X6_ways_68, b_X6_ways_69, b_X6_ways_83, b_X6_ways_88, b_X6_ways_97, b_X6_ways_100, b_X6_ways_108, b_X6_ways_114, b_X6_ways_117, b_X6_ways_120, b_X6_ways_127, b_X6_ways_131, b_X6_ways_138, b_X6_ways_142, b_X6_ways_149, b_X6_ways_153, b_X6_ways_160, b_X6_ways_163, b_X6_ways_170, b_X6_ways_179, b_X6_ways_187, b_X6_ways_190, b_X6_ways_195, b_X6_ways_202, b_X6_ways_207, b_X6_ways_211, b_X6_ways_217, s_misThere, s_misPlace, s_in, am_C_v, am_C_0, am_ue, if_true, if_false, eq_self, am_10, ite_not, Nat.reduceEqDiff, reduceIte, am_bI_t c2, am_bI_t h2, am_bI_t h3, am_bI_f h4]
      · refine ⟨.int (-2), R, Z, A, Y, ?_, ?_, hI⟩
        · simp only [d_X5_ways, b_X5_ways_0, b_X5_ways_8, b_X5_ways_11, b_X5_ways_13, b_X5_ways_17, b_X5_ways_20, b_X5_ways_24, b_X5_ways_27, b_X5_ways_34, b_X5_ways_37, b_X5_ways_40, b_X5_ways_45, b_X5_ways_50, b_X5_ways_54, b_X5_ways_57, b_X5_ways_72, b_X5_ways_82, b_X5_ways_90, b_X5_ways_93, b_X5_ways_98, b_X5_ways_103, b_X5_ways_114, b_X5_ways_120, b_X5_ways_121, b_X5_ways_131, s_isThere, s_isPlace, s_isIn, am_C_v, am_C_0, am_ue, if_true, if_false, eq_self, am_10, ite_not, Nat.reduceEqDiff, reduceIte, am_bI_t c1, am_bI_t h2, am_bI_f h3]
        · simp only [d_X6_ways, b_X6_ways_0, b_X6_ways_5, b_X6_ways_8, b_X6_ways_10, b_X6_ways_14, b_X6_ways_17, b_X6_ways_21, b_X6_ways_24, b_X6_ways_31, b_X6_ways_34, b_X6_ways_37, b_X6_ways_43, b_X6_ways_49, b_X6_ways_54, b_X6_ways_57, b_X6_ways_62, b_X6_ways_68, b_X6_ways_69, b_X6_ways_83, b_X6_ways_88, b_X6_ways_97, b_X6_ways_100, b_X6_ways_108, b_X6_ways_114, b_X6_ways_117, b_X6_ways_120, b_X6_ways_127, b_X6_ways_131, b_X6_ways_138, b_X6_ways_142, b_X6_ways_149, b_X6_ways_153, b_X6_ways_160, b_X6_ways_163, b_X6_ways_170, b_X6_ways_179, b_X6_ways_187, b_X6_ways_190, b_X6_ways_195, b_X6_ways_202, b_X6_ways_207, b_X6_ways_211, b_X6_ways_217, s_misThere, s_misPlace, s_in, am_C_v, am_C_0, am_ue, if_true, if_false, eq_self, am_10, ite_not, Nat.reduceEqDiff, reduceIte, am_bI_t c2, am_bI_t h2, am_bI_f h3]
    · refine ⟨.int (-2), R, Z, A, Y, ?_, ?_, hI⟩
      · simp only [d_X5_ways, b_X5_ways_0, b_X5_ways_8, b_X5_ways_11, b_X5_ways_13, b_X5_ways_17, b_X5_ways_20, b_X5_ways_24, b_X5_ways_27, b_X5_ways_34, b_X5_ways_37, b_X5_ways_40, b_X5_ways_45, b_X5_ways_50, b_X5_ways_54, b_X5_ways_57, b_X5_ways_72, b_X5_ways_82, b_X5_ways_90, b_X5_ways_93, b_X5_ways_98, b_X5_ways_103, b_X5_ways_114, b_X5_ways_120, b_X5_ways_121, b_X5_ways_131, s_isThere, s_isPlace, s_isIn, am_C_v, am_C_0, am_ue, if_true, if_false, eq_self, am_10, ite_not, Nat.reduceEqDiff, reduceIte, am_bI_t c1, am_bI_f h2]
      · simp only [d_X6_ways, b_X6_ways_0, b_X6_ways_5, b_X6_ways_8, b_X6_ways_10, b_X6_ways_14, b_X6_ways_17, b_X6_ways_21, b_X6_ways_24, b_X6_ways_31, b_X6_ways_34, b_X6_ways_37, b_X6_ways_43, b_X6_ways_49, b_X6_ways_54, b_X6_ways_57, b_X6_ways_62, b_X6_ways_68, b_X6_ways_69, b_X6_ways_83, b_X6_ways_88, b_X6_ways_97, b_X6_ways_100, b_X6_ways_108, b_X6_ways_114, b_X6_ways_117, b_X6_ways_120, b_X6_ways_127, b_X6_ways_131, b_X6_ways_138, b_X6_ways_142, b_X6_ways_149, b_X6_ways_153, b_X6_ways_160, b_X6_ways_163, b_X6_ways_170, b_X6_ways_179, b_X6_ways_187, b_X6_ways_190, b_X6_ways_195, b_X6_ways_202, b_X6_ways_207, b_X6_ways_211, b_X6_ways_217, s_misThere, s_misPlace, s_in, am_C_v, am_C_0, am_ue, if_true, if_false, eq_self, am_10, ite_not, Nat.reduceEqDiff, reduceIte, am_bI_t c2, am_bI_f h2]
  · have c1 : ¬ am_hs (Z 1) a := fun z => h1 (q1.mp z)
    have c2 := fun z => h1 (by rw [v1.1]; exact q2.mp z)
    refine ⟨.int (-1), R, Z, A, Y, ?_, ?_, hI⟩
    · simp only [d_X5_ways, b_X5_ways_0, b_X5_ways_8, b_X5_ways_11, b_X5_ways_13, b_X5_ways_17, b_X5_ways_20, b_X5_ways_24, b_X5_ways_27, b_X5_ways_34, b_X5_ways_37, b_X5_ways_40, b_X5_ways_45, b_X5_ways_50, b_X5_ways_54, b_X5_ways_57, b_X5_ways_72, b_X5_ways_82, b_X5_ways_90, b_X5_ways_93, b_X5_ways_98, b_X5_ways_103, b_X5_ways_114, b_X5_ways_120, b_X5_ways_121, b_X5_ways_131, s_isThere, s_isPlace, s_isIn, am_C_v, am_C_0, am_ue, if_true, if_false, eq_self, am_10, ite_not, Nat.reduceEqDiff, reduceIte, am_bI_f c1]
    · simp only [d_X6_ways, b_X6_ways_0, b_X6_ways_5, b_X6_ways_8, b_X6_ways_10, b_X6_ways_14, b_X6_ways_17, b_X6_ways_21, b_X6_ways_24, b_X6_ways_31, b_X6_ways_34, b_X6_ways_37, b_X6_ways_43, b_X6_ways_49, b_X6_ways_54, b_X6_ways_57, b_X6_ways_62, b_X6_ways_68, b_X6_ways_69, b_X6_ways_83, b_X6_ways_88, b_X6_ways_97, b_X6_ways_100, b_X6_ways_108, b_X6_ways_114, b_X6_ways_117, b_X6_ways_120, b_X6_ways_127, b_X6_ways_131, b_X6_ways_138, b_X6_ways_142, b_X6_ways_149, b_X6_ways_153, b_X6_ways_160, b_X6_ways_163, b_X6_ways_170, b_X6_ways_179, b_X6_ways_187, b_X6_ways_190, b_X6_ways_195, b_X6_ways_202, b_X6_ways_207, b_X6_ways_211, b_X6_ways_217, s_misThere, s_misPlace, s_in, am_C_v, am_C_0, am_ue, if_true, if_false, eq_self, am_10, ite_not, Nat.reduceEqDiff, reduceIte, am_bI_f c2]
