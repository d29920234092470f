/-- the cells of both: the class (0 to 87), the reference (88 to 102); R, A: rows; Z, Y: numbers -/
def am_WH (R : Nat → Nat → Int32) (Z : Nat → Int32) (A : Nat → Nat → Int32) (Y : Nat → Int32) : List AMc := [.inr (5, [.ref 1, .ref 20, .ref 23, .ref 43, .ref 50, .ref 69, .int (Z 37)]), .inr (4, [.ref 2, .int (Z 0), .int (Z 1), .ref 4, .ref 6, .ref 8, .int (Z 2), .ref 10, .ref 12, .int (Z 3), .ref 14, .ref 16, .ref 18, .int (Z 4), .int (Z 5), .int (Z 6)]), .inr (1, [.ref 3]), .inl (0, 3, R 0), .inr (1, [.ref 5]), .inl (0, 7, R 1), .inr (1, [.ref 7]), .inl (0, 7, R 2), .inr (1, [.ref 9]), .inl (0, 7, R 3), .inr (1, [.ref 11]), .inl (0, 8, R 4), .inr (1, [.ref 13]), .inl (0, 8, R 5), .inr (1, [.ref 15]), .inl (0, 12, R 6), .inr (1, [.ref 17]), .inl (0, 12, R 7), .inr (1, [.ref 19]), .inl (0, 12, R 8), .inr (0, [.ref 21, .int (Z 28)]), .inr (1, [.ref 22]), .inl (0, 60, R 36), .inr (3, [.ref 24, .int (Z 29), .int (Z 30), .int (Z 31), .int (Z 32), .int (Z 33), .int (Z 34)]), .inr (4, [.ref 25, .int (Z 7), .int (Z 8), .ref 27, .ref 29, .ref 31, .int (Z 9), .ref 33, .ref 35, .int (Z 10), .ref 37, .ref 39, .ref 41, .int (Z 11), .int (Z 12), .int (Z 13)]), .inr (1, [.ref 26]), .inl (0, 3, R 9), .inr (1, [.ref 28]), .inl (0, 7, R 10), .inr (1, [.ref 30]), .inl (0, 7, R 11), .inr (1, [.ref 32]), .inl (0, 7, R 12), .inr (1, [.ref 34]), .inl (0, 8, R 13), .inr (1, [.ref 36]), .inl (0, 8, R 14), .inr (1, [.ref 38]), .inl (0, 12, R 15), .inr (1, [.ref 40]), .inl (0, 12, R 16), .inr (1, [.ref 42]), .inl (0, 12, R 17), .inr (2, [.ref 44, .ref 46, .ref 48, .int (Z 35), .int (Z 36)]), .inr (1, [.ref 45]), .inl (0, 7, R 37), .inr (1, [.ref 47]), .inl (0, 7, R 38), .inr (1, [.ref 49]), .inl (0, 69, R 39), .inr (4, [.ref 51, .int (Z 14), .int (Z 15), .ref 53, .ref 55, .ref 57, .int (Z 16), .ref 59, .ref 61, .int (Z 17), .ref 63, .ref 65, .ref 67, .int (Z 18), .int (Z 19), .int (Z 20)]), .inr (1, [.ref 52]), .inl (0, 3, R 18), .inr (1, [.ref 54]), .inl (0, 7, R 19), .inr (1, [.ref 56]), .inl (0, 7, R 20), .inr (1, [.ref 58]), .inl (0, 7, R 21), .inr (1, [.ref 60]), .inl (0, 8, R 22), .inr (1, [.ref 62]), .inl (0, 8, R 23), .inr (1, [.ref 64]), .inl (0, 12, R 24), .inr (1, [.ref 66]), .inl (0, 12, R 25), .inr (1, [.ref 68]), .inl (0, 12, R 26), .inr (4, [.ref 70, .int (Z 21), .int (Z 22), .ref 72, .ref 74, .ref 76, .int (Z 23), .ref 78, .ref 80, .int (Z 24), .ref 82, .ref 84, .ref 86, .int (Z 25), .int (Z 26), .int (Z 27)]), .inr (1, [.ref 71]), .inl (0, 3, R 27), .inr (1, [.ref 73]), .inl (0, 7, R 28), .inr (1, [.ref 75]), .inl (0, 7, R 29), .inr (1, [.ref 77]), .inl (0, 7, R 30), .inr (1, [.ref 79]), .inl (0, 8, R 31), .inr (1, [.ref 81]), .inl (0, 8, R 32), .inr (1, [.ref 83]), .inl (0, 12, R 33), .inr (1, [.ref 85]), .inl (0, 12, R 34), .inr (1, [.ref 87]), .inl (0, 12, R 35), .inr (6, [.ref 89, .ref 90, .int (Y 0), .ref 91, .int (Y 1), .ref 92, .int (Y 2), .ref 93, .ref 94, .ref 95, .int (Y 3), .ref 96, .int (Y 4), .ref 97, .int (Y 5), .int (Y 6), .int (Y 7), .int (Y 8), .int (Y 9), .ref 98, .ref 99, .ref 100, .ref 101, .ref 102]), .inl (0, 32, A 0), .inl (0, 32, A 1), .inl (0, 3, A 2), .inl (0, 7, A 3), .inl (0, 12, A 4), .inl (0, 12, A 5), .inl (0, 12, A 6), .inl (0, 16, A 7), .inl (0, 60, A 8), .inl (0, 10, A 9), .inl (0, 3, A 10), .inl (0, 2187, A 11), .inl (0, 220, A 12), .inl (1, 2, A 13)]
/-! Rows: what get, set and copyFrom do, of any row of any heap. -/
def am_rg (n : Nat) (f : Nat → Int32) (i : Int32) : Int32 := if 0 ≤ i ∧ i < Int32.ofNat n then f i.toNatClampNeg else 0
def am_rs (n : Nat) (f : Nat → Int32) (i x : Int32) : Nat → Int32 := if 0 ≤ i ∧ i < Int32.ofNat n then upd f i.toNatClampNeg x else f
def am_rc (n : Nat) (f g : Nat → Int32) : Nat → Int32 := fun j => if j < n then g j else f j
theorem am_in_row {i : Int32} {n : Nat} (h0 : ¬ i < 0) (h1 : ¬ Int32.ofNat n ≤ i) (hn : n < 2 ^ 31) : am_in i n := by
  obtain ⟨j, hj, rfl⟩ := nI_of h0
  have h2 : ¬ nI n ≤ nI j := h1
  rw [nI_leI hn hj] at h2
  exact ⟨by rw [nI_toInt hj]; omega, by rw [nI_toInt hj]; omega⟩
theorem am_rg_of {i : Int32} {n : Nat} {f : Nat → Int32} (h0 : ¬ i < 0) (h1 : ¬ Int32.ofNat n ≤ i) : am_rg n f i = f i.toNatClampNeg := if_pos ⟨Int32.not_lt.mp h0, Int32.not_le.mp h1⟩
theorem am_rs_of {i x : Int32} {n : Nat} {f : Nat → Int32} (h0 : ¬ i < 0) (h1 : ¬ Int32.ofNat n ≤ i) : am_rs n f i x = upd f i.toNatClampNeg x := if_pos ⟨Int32.not_lt.mp h0, Int32.not_le.mp h1⟩
theorem am_E_getf {X : AMx} {M : AMinfo} {pc len a b t idx o ci : Nat} {v w : Value} {tab : List (Int32 × Nat)} {L : AMl} {r fs : List Value} {h : List AMc} (hf : am_fnd (am_rows M) pc = some (.getfield idx, len, a, b, v, tab, t)) (h1 : h[o]? = some (.inr (ci, fs))) (hc : Nat.beq ci a = true) (h2 : fs[b]? = some w) : am_E X M pc L (.ref o :: r) h = am_E X M (pc + len) L (w :: r) h := by
  have e : am_stp X M pc L (.ref o :: r) h = some (pc + len, L, w :: r, h) := by
    unfold am_stp
    rw [hf]
    dsimp only
    rw [h1]
    dsimp only
    rw [hc, h2]
    rfl
  exact am_E_step e
theorem am_E_alen {X : AMx} {M : AMinfo} {pc len a b t o tg n : Nat} {v : Value} {tab : List (Int32 × Nat)} {L : AMl} {r : List Value} {h : List AMc} {f : Nat → Int32} (hf : am_fnd (am_rows M) pc = some (.arraylength, len, a, b, v, tab, t)) (h1 : h[o]? = some (.inl (tg, n, f))) (hq : Nat.beq o am_SCR = false) : am_E X M pc L (.ref o :: r) h = am_E X M (pc + len) L (.int (Int32.ofNat n) :: r) h := by
  have e : am_stp X M pc L (.ref o :: r) h = some (pc + len, L, .int (Int32.ofNat n) :: r, h) := by
    unfold am_stp
    rw [hf]
    dsimp only
    rw [hq]
    dsimp only [cond_false]
    rw [h1]
  exact am_E_step e
theorem am_E_ald {X : AMx} {M : AMinfo} {pc len a b t o n : Nat} {v : Value} {tab : List (Int32 × Nat)} {L : AMl} {r : List Value} {h : List AMc} {f : Nat → Int32} {i : Int32} (hf : am_fnd (am_rows M) pc = some (.iaload, len, a, b, v, tab, t)) (h1 : h[o]? = some (.inl (0, n, f))) (hq : Nat.beq o am_SCR = false) (hi : am_in i n) : am_E X M pc L (.int i :: .ref o :: r) h = am_E X M (pc + len) L (.int (f i.toNatClampNeg) :: r) h := by
  have e : am_stp X M pc L (.int i :: .ref o :: r) h = some (pc + len, L, .int (f i.toNatClampNeg) :: r, h) := by
    unfold am_stp
    rw [hf]
    dsimp only
    rw [hq]
    dsimp only [cond_false]
    rw [h1]
    exact if_pos hi
  exact am_E_step e
theorem am_E_ast {X : AMx} {M : AMinfo} {pc len a b t o n : Nat} {v : Value} {tab : List (Int32 × Nat)} {L : AMl} {r : List Value} {h : List AMc} {f : Nat → Int32} {i x : Int32} (hf : am_fnd (am_rows M) pc = some (.iastore, len, a, b, v, tab, t)) (h1 : h[o]? = some (.inl (0, n, f))) (hi : am_in i n) : am_E X M pc L (.int x :: .int i :: .ref o :: r) h = am_E X M (pc + len) L r (h.set o (.inl (0, n, upd f i.toNatClampNeg x))) := by
  have e : am_stp X M pc L (.int x :: .int i :: .ref o :: r) h = some (pc + len, L, r, h.set o (.inl (0, n, upd f i.toNatClampNeg x))) := by
    unfold am_stp
    rw [hf]
    dsimp only
    rw [h1]
    exact if_pos hi
  exact am_E_step e
theorem am_row_get {X : AMx} {h : List AMc} {r q n : Nat} {f : Nat → Int32} {i : Int32} (h1 : h[r]? = some (.inr (1, [.ref q]))) (h2 : h[q]? = some (.inl (0, n, f))) (hn : n < 2 ^ 31) (hq : Nat.beq q am_SCR = false) : am_D X 11 [.ref r, .int i] h = some (some (.int (am_rg n f i)), h) := by
  show am_E X AM_X1_get 0 [some (.ref r), some (.int i)] [] h = _
  rw [am_E_br (c := i < 0) (p := 22) (q := 4) (L' := [some (.ref r), some (.int i)]) (S' := []) (h' := h) 2 rfl]
  have z22 : am_E X AM_X1_get 22 [some (.ref r), some (.int i)] [] h = some (some (.int 0), h) := am_E_ret (p := 23) (L1 := [some (.ref r), some (.int i)]) (S1 := [.int 0]) (h1 := h) 1 rfl rfl rfl
  by_cases c0 : i < 0
  · rw [if_pos c0, z22]
    unfold am_rg
    rw [if_neg (fun z => Int32.not_lt.mpr z.1 c0)]
  · rw [if_neg c0, am_E_n (pc' := 6) (L' := [some (.ref r), some (.int i)]) (S' := [.ref r, .int i]) (h' := h) 2 rfl, am_E_getf rfl h1 rfl rfl, am_E_alen rfl h2 hq]
    rw [am_E_br (c := Int32.ofNat n ≤ i) (p := 22) (q := 13) (L' := [some (.ref r), some (.int i)]) (S' := []) (h' := h) 1 rfl]
    by_cases c1 : Int32.ofNat n ≤ i
    · rw [if_pos c1, z22]
      unfold am_rg
      rw [if_neg (fun z => Int32.not_lt.mpr c1 z.2)]
    · rw [if_neg c1, am_rg_of c0 c1, am_E_n (pc' := 14) (L' := [some (.ref r), some (.int i)]) (S' := [.ref r]) (h' := h) 1 rfl, am_E_getf rfl h1 rfl rfl]
      rw [am_E_n (pc' := 18) (L' := [some (.ref r), some (.int i)]) (S' := [.int i, .ref q]) (h' := h) 1 rfl, am_E_ald rfl h2 hq (am_in_row c0 c1 hn)]
      exact am_E_ret (p := 23) (L1 := [some (.ref r), some (.int i)]) (S1 := [.int (f i.toNatClampNeg)]) (h1 := h) 1 rfl rfl rfl
theorem am_row_set {X : AMx} {h : List AMc} {r q n : Nat} {f : Nat → Int32} {i x : Int32} (h1 : h[r]? = some (.inr (1, [.ref q]))) (h2 : h[q]? = some (.inl (0, n, f))) (hn : n < 2 ^ 31) (hq : Nat.beq q am_SCR = false) : am_D X 12 [.ref r, .int i, .int x] h = some (none, h.set q (.inl (0, n, am_rs n f i x))) := by
  show am_E X AM_X1_set 0 [some (.ref r), some (.int i), some (.int x)] [] h = _
  rw [am_E_br (c := i < 0) (p := 20) (q := 4) (L' := [some (.ref r), some (.int i), some (.int x)]) (S' := []) (h' := h) 2 rfl]
  have hs : h.set q (.inl (0, n, f)) = h := by
    obtain ⟨hl, hv⟩ := List.getElem?_eq_some_iff.mp h2
    rw [← hv]
    exact List.set_getElem_self hl
  have z20 : ∀ h', am_E X AM_X1_set 20 [some (.ref r), some (.int i), some (.int x)] [] h' = some (none, h') := fun h' => am_E_ret (p := 20) (L1 := [some (.ref r), some (.int i), some (.int x)]) (S1 := []) (h1 := h') 0 rfl rfl rfl
  by_cases c0 : i < 0
  · rw [if_pos c0, z20]
    unfold am_rs
    rw [if_neg (fun z => Int32.not_lt.mpr z.1 c0), hs]
  · rw [if_neg c0, am_E_n (pc' := 6) (L' := [some (.ref r), some (.int i), some (.int x)]) (S' := [.ref r, .int i]) (h' := h) 2 rfl, am_E_getf rfl h1 rfl rfl, am_E_alen rfl h2 hq]
    rw [am_E_br (c := Int32.ofNat n ≤ i) (p := 20) (q := 13) (L' := [some (.ref r), some (.int i), some (.int x)]) (S' := []) (h' := h) 1 rfl]
    by_cases c1 : Int32.ofNat n ≤ i
    · rw [if_pos c1, z20]
      unfold am_rs
      rw [if_neg (fun z => Int32.not_lt.mpr c1 z.2), hs]
    · rw [if_neg c1, am_rs_of c0 c1, am_E_n (pc' := 14) (L' := [some (.ref r), some (.int i), some (.int x)]) (S' := [.ref r]) (h' := h) 1 rfl, am_E_getf rfl h1 rfl rfl]
      rw [am_E_n (pc' := 19) (L' := [some (.ref r), some (.int i), some (.int x)]) (S' := [.int x, .int i, .ref q]) (h' := h) 2 rfl, am_E_ast rfl h2 (am_in_row c0 c1 hn)]
      exact z20 _
theorem am_rc_0 (f g : Nat → Int32) : am_rc 0 f g = f := by funext j; simp [am_rc]
theorem am_rc_s (k : Nat) (f g : Nat → Int32) : upd (am_rc k f g) k (g k) = am_rc (k + 1) f g := by
  funext j
  unfold am_rc upd
  by_cases h1 : j = k
  · subst h1; simp
  · by_cases h2 : j < k
    · simp [h1, h2, Nat.lt_succ_of_lt h2]
    · have : ¬ j < k + 1 := by omega
      simp [h1, h2, this]
theorem am_row_copy {X : AMx} {h : List AMc} {r q n r2 q2 : Nat} {f g : Nat → Int32} (h1 : h[r]? = some (.inr (1, [.ref q]))) (h2 : h[q]? = some (.inl (0, n, f))) (h3 : h[r2]? = some (.inr (1, [.ref q2]))) (h4 : h[q2]? = some (.inl (0, n, g))) (hn : n < 2 ^ 31) (hne : q ≠ q2) (hq : Nat.beq q am_SCR = false) (hq2 : Nat.beq q2 am_SCR = false) : am_D X 13 [.ref r, .ref r2] h = some (none, h.set q (.inl (0, n, am_rc n f g))) := by
  show am_E X AM_X1_copyFrom 0 [some (.ref r), some (.ref r2), none] [] h = _
  rw [am_E_n (pc' := 2) (L' := [some (.ref r), some (.ref r2), some (.int 0)]) (S' := []) (h' := h) 2 rfl]
  have hl : q < h.length := (List.getElem?_eq_some_iff.mp h2).1
  have hr : q ≠ r := fun z => by rw [z, h1] at h2; cases h2
  have hr2 : q ≠ r2 := fun z => by rw [z, h3] at h2; cases h2
  have key : ∀ d k, k + d = n → am_E X AM_X1_copyFrom 2 [some (.ref r), some (.ref r2), some (.int (nI k))] [] (h.set q (.inl (0, n, am_rc k f g))) = some (none, h.set q (.inl (0, n, am_rc n f g))) := by
    intro d
    induction d with
    | zero =>
      intro k hk
      have hk : k = n := by omega
      subst hk
      have g1 : (h.set q (.inl (0, k, am_rc k f g)))[r]? = some (.inr (1, [.ref q])) := by rw [List.getElem?_set_ne hr]; exact h1
      have g2 : (h.set q (.inl (0, k, am_rc k f g)))[q]? = some (.inl (0, k, am_rc k f g)) := by rw [List.getElem?_set_self hl]
      rw [am_E_n (pc' := 4) (L' := [some (.ref r), some (.ref r2), some (.int (nI k))]) (S' := [.ref r, .int (nI k)]) (h' := h.set q (.inl (0, k, am_rc k f g))) 2 rfl, am_E_getf rfl g1 rfl rfl, am_E_alen rfl g2 hq]
      rw [am_E_br (c := Int32.ofNat k ≤ nI k) (p := 28) (q := 11) (L' := [some (.ref r), some (.ref r2), some (.int (nI k))]) (S' := []) (h' := h.set q (.inl (0, k, am_rc k f g))) 1 rfl, if_pos (show Int32.ofNat k ≤ nI k from Int32.le_refl _)]
      exact am_E_ret (p := 28) (L1 := [some (.ref r), some (.ref r2), some (.int (nI k))]) (S1 := []) (h1 := h.set q (.inl (0, k, am_rc k f g))) 0 rfl rfl rfl
    | succ d ih =>
      intro k hk
      have g1 : (h.set q (.inl (0, n, am_rc k f g)))[r]? = some (.inr (1, [.ref q])) := by rw [List.getElem?_set_ne hr]; exact h1
      have g2 : (h.set q (.inl (0, n, am_rc k f g)))[q]? = some (.inl (0, n, am_rc k f g)) := by rw [List.getElem?_set_self hl]
      have g3 : (h.set q (.inl (0, n, am_rc k f g)))[r2]? = some (.inr (1, [.ref q2])) := by rw [List.getElem?_set_ne hr2]; exact h3
      have g4 : (h.set q (.inl (0, n, am_rc k f g)))[q2]? = some (.inl (0, n, g)) := by rw [List.getElem?_set_ne hne]; exact h4
      have c0 : ¬ nI k < 0 := nI_pos (by omega)
      have c1 : ¬ Int32.ofNat n ≤ nI k := nI_ge (by omega) hn
      have hcl : (nI k).toNatClampNeg = k := nI_clamp (by omega)
      rw [am_E_n (pc' := 4) (L' := [some (.ref r), some (.ref r2), some (.int (nI k))]) (S' := [.ref r, .int (nI k)]) (h' := h.set q (.inl (0, n, am_rc k f g))) 2 rfl, am_E_getf rfl g1 rfl rfl, am_E_alen rfl g2 hq]
      rw [am_E_br (c := Int32.ofNat n ≤ nI k) (p := 28) (q := 11) (L' := [some (.ref r), some (.ref r2), some (.int (nI k))]) (S' := []) (h' := h.set q (.inl (0, n, am_rc k f g))) 1 rfl, if_neg c1]
      rw [am_E_n (pc' := 12) (L' := [some (.ref r), some (.ref r2), some (.int (nI k))]) (S' := [.ref r]) (h' := h.set q (.inl (0, n, am_rc k f g))) 1 rfl, am_E_getf rfl g1 rfl rfl]
      have hcal : am_cal AM_X1_copyFrom 18 [.int (nI k), .ref r2, .int (nI k), .ref q] (h.set q (.inl (0, n, am_rc k f g))) = some (11, [.ref r2, .int (nI k)], [.int (nI k), .ref q]) := by
        have hrc : am_rcv (am_mg 11) (h.set q (.inl (0, n, am_rc k f g))) [.ref r2, .int (nI k)] = true := by
          unfold am_rcv
          dsimp only
          rw [g3]
          rfl
        show (bif true && am_rcv (am_mg 11) (h.set q (.inl (0, n, am_rc k f g))) [.ref r2, .int (nI k)] then some (11, ([.ref r2, .int (nI k)] : List Value), ([.int (nI k), .ref q] : List Value)) else none) = _
        rw [hrc]
        rfl
      rw [am_E_call (p := 18) (L1 := [some (.ref r), some (.ref r2), some (.int (nI k))]) (S1 := [.int (nI k), .ref r2, .int (nI k), .ref q]) (h1 := h.set q (.inl (0, n, am_rc k f g))) 3 rfl rfl rfl hcal rfl, am_row_get g3 g4 hn hq2, am_C_v, am_rg_of c0 c1, am_E_ast rfl g2 (am_in_row c0 c1 hn), hcl, List.set_set, am_rc_s]
      rw [am_E_n (pc' := 2) (L' := [some (.ref r), some (.ref r2), some (.int (nI k + 1))]) (S' := []) (h' := h.set q (.inl (0, n, am_rc (k + 1) f g))) 2 rfl, ← nI_succ]
      exact ih (k + 1) (by omega)
  have h0 := key n 0 (by omega)
  rw [am_rc_0] at h0
  have hs : h.set q (.inl (0, n, f)) = h := by
    obtain ⟨hl, hv⟩ := List.getElem?_eq_some_iff.mp h2
    rw [← hv]
    exact List.set_getElem_self hl
  rw [hs] at h0
  exact h0
theorem d_X1_copyFrom_2_25 (X : AMx) (R : Nat → Nat → Int32) (Z : Nat → Int32) (A : Nat → Nat → Int32) (Y : Nat → Int32) : am_D X 13 [.ref 2, .ref 25] (am_WH R Z A Y) = some (none, am_WH (am_up R 0 (am_rc 3 (R 0) (R 9))) Z A Y) := (am_row_copy (q := 3) (n := 3) (f := R 0) (q2 := 26) (g := R 9) rfl rfl rfl rfl (by decide) (by decide) rfl rfl).trans rfl
theorem d_X1_copyFrom_2_51 (X : AMx) (R : Nat → Nat → Int32) (Z : Nat → Int32) (A : Nat → Nat → Int32) (Y : Nat → Int32) : am_D X 13 [.ref 2, .ref 51] (am_WH R Z A Y) = some (none, am_WH (am_up R 0 (am_rc 3 (R 0) (R 18))) Z A Y) := (am_row_copy (q := 3) (n := 3) (f := R 0) (q2 := 52) (g := R 18) rfl rfl rfl rfl (by decide) (by decide) rfl rfl).trans rfl
theorem d_X1_copyFrom_2_70 (X : AMx) (R : Nat → Nat → Int32) (Z : Nat → Int32) (A : Nat → Nat → Int32) (Y : Nat → Int32) : am_D X 13 [.ref 2, .ref 70] (am_WH R Z A Y) = some (none, am_WH (am_up R 0 (am_rc 3 (R 0) (R 27))) Z A Y) := (am_row_copy (q := 3) (n := 3) (f := R 0) (q2 := 71) (g := R 27) rfl rfl rfl rfl (by decide) (by decide) rfl rfl).trans rfl
theorem d_X1_copyFrom_4_27 (X : AMx) (R : Nat → Nat → Int32) (Z : Nat → Int32) (A : Nat → Nat → Int32) (Y : Nat → Int32) : am_D X 13 [.ref 4, .ref 27] (am_WH R Z A Y) = some (none, am_WH (am_up R 1 (am_rc 7 (R 1) (R 10))) Z A Y) := (am_row_copy (q := 5) (n := 7) (f := R 1) (q2 := 28) (g := R 10) rfl rfl rfl rfl (by decide) (by decide) rfl rfl).trans rfl
theorem d_X1_copyFrom_4_53 (X : AMx) (R : Nat → Nat → Int32) (Z : Nat → Int32) (A : Nat → Nat → Int32) (Y : Nat → Int32) : am_D X 13 [.ref 4, .ref 53] (am_WH R Z A Y) = some (none, am_WH (am_up R 1 (am_rc 7 (R 1) (R 19))) Z A Y) := (am_row_copy (q := 5) (n := 7) (f := R 1) (q2 := 54) (g := R 19) rfl rfl rfl rfl (by decide) (by decide) rfl rfl).trans rfl
theorem d_X1_copyFrom_4_72 (X : AMx) (R : Nat → Nat → Int32) (Z : Nat → Int32) (A : Nat → Nat → Int32) (Y : Nat → Int32) : am_D X 13 [.ref 4, .ref 72] (am_WH R Z A Y) = some (none, am_WH (am_up R 1 (am_rc 7 (R 1) (R 28))) Z A Y) := (am_row_copy (q := 5) (n := 7) (f := R 1) (q2 := 73) (g := R 28) rfl rfl rfl rfl (by decide) (by decide) rfl rfl).trans rfl
theorem d_X1_copyFrom_6_29 (X : AMx) (R : Nat → Nat → Int32) (Z : Nat → Int32) (A : Nat → Nat → Int32) (Y : Nat → Int32) : am_D X 13 [.ref 6, .ref 29] (am_WH R Z A Y) = some (none, am_WH (am_up R 2 (am_rc 7 (R 2) (R 11))) Z A Y) := (am_row_copy (q := 7) (n := 7) (f := R 2) (q2 := 30) (g := R 11) rfl rfl rfl rfl (by decide) (by decide) rfl rfl).trans rfl
theorem d_X1_copyFrom_6_55 (X : AMx) (R : Nat → Nat → Int32) (Z : Nat → Int32) (A : Nat → Nat → Int32) (Y : Nat → Int32) : am_D X 13 [.ref 6, .ref 55] (am_WH R Z A Y) = some (none, am_WH (am_up R 2 (am_rc 7 (R 2) (R 20))) Z A Y) := (am_row_copy (q := 7) (n := 7) (f := R 2) (q2 := 56) (g := R 20) rfl rfl rfl rfl (by decide) (by decide) rfl rfl).trans rfl
theorem d_X1_copyFrom_6_74 (X : AMx) (R : Nat → Nat → Int32) (Z : Nat → Int32) (A : Nat → Nat → Int32) (Y : Nat → Int32) : am_D X 13 [.ref 6, .ref 74] (am_WH R Z A Y) = some (none, am_WH (am_up R 2 (am_rc 7 (R 2) (R 29))) Z A Y) := (am_row_copy (q := 7) (n := 7) (f := R 2) (q2 := 75) (g := R 29) rfl rfl rfl rfl (by decide) (by decide) rfl rfl).trans rfl
theorem d_X1_copyFrom_8_31 (X : AMx) (R : Nat → Nat → Int32) (Z : Nat → Int32) (A : Nat → Nat → Int32) (Y : Nat → Int32) : am_D X 13 [.ref 8, .ref 31] (am_WH R Z A Y) = some (none, am_WH (am_up R 3 (am_rc 7 (R 3) (R 12))) Z A Y) := (am_row_copy (q := 9) (n := 7) (f := R 3) (q2 := 32) (g := R 12) rfl rfl rfl rfl (by decide) (by decide) rfl rfl).trans rfl
theorem d_X1_copyFrom_8_57 (X : AMx) (R : Nat → Nat → Int32) (Z : Nat → Int32) (A : Nat → Nat → Int32) (Y : Nat → Int32) : am_D X 13 [.ref 8, .ref 57] (am_WH R Z A Y) = some (none, am_WH (am_up R 3 (am_rc 7 (R 3) (R 21))) Z A Y) := (am_row_copy (q := 9) (n := 7) (f := R 3) (q2 := 58) (g := R 21) rfl rfl rfl rfl (by decide) (by decide) rfl rfl).trans rfl
theorem d_X1_copyFrom_8_76 (X : AMx) (R : Nat → Nat → Int32) (Z : Nat → Int32) (A : Nat → Nat → Int32) (Y : Nat → Int32) : am_D X 13 [.ref 8, .ref 76] (am_WH R Z A Y) = some (none, am_WH (am_up R 3 (am_rc 7 (R 3) (R 30))) Z A Y) := (am_row_copy (q := 9) (n := 7) (f := R 3) (q2 := 77) (g := R 30) rfl rfl rfl rfl (by decide) (by decide) rfl rfl).trans rfl
theorem d_X1_copyFrom_10_33 (X : AMx) (R : Nat → Nat → Int32) (Z : Nat → Int32) (A : Nat → Nat → Int32) (Y : Nat → Int32) : am_D X 13 [.ref 10, .ref 33] (am_WH R Z A Y) = some (none, am_WH (am_up R 4 (am_rc 8 (R 4) (R 13))) Z A Y) := (am_row_copy (q := 11) (n := 8) (f := R 4) (q2 := 34) (g := R 13) rfl rfl rfl rfl (by decide) (by decide) rfl rfl).trans rfl
theorem d_X1_copyFrom_10_59 (X : AMx) (R : Nat → Nat → Int32) (Z : Nat → Int32) (A : Nat → Nat → Int32) (Y : Nat → Int32) : am_D X 13 [.ref 10, .ref 59] (am_WH R Z A Y) = some (none, am_WH (am_up R 4 (am_rc 8 (R 4) (R 22))) Z A Y) := (am_row_copy (q := 11) (n := 8) (f := R 4) (q2 := 60) (g := R 22) rfl rfl rfl rfl (by decide) (by decide) rfl rfl).trans rfl
theorem d_X1_copyFrom_10_78 (X : AMx) (R : Nat → Nat → Int32) (Z : Nat → Int32) (A : Nat → Nat → Int32) (Y : Nat → Int32) : am_D X 13 [.ref 10, .ref 78] (am_WH R Z A Y) = some (none, am_WH (am_up R 4 (am_rc 8 (R 4) (R 31))) Z A Y) := (am_row_copy (q := 11) (n := 8) (f := R 4) (q2 := 79) (g := R 31) rfl rfl rfl rfl (by decide) (by decide) rfl rfl).trans rfl
theorem d_X1_copyFrom_12_35 (X : AMx) (R : Nat → Nat → Int32) (Z : Nat → Int32) (A : Nat → Nat → Int32) (Y : Nat → Int32) : am_D X 13 [.ref 12, .ref 35] (am_WH R Z A Y) = some (none, am_WH (am_up R 5 (am_rc 8 (R 5) (R 14))) Z A Y) := (am_row_copy (q := 13) (n := 8) (f := R 5) (q2 := 36) (g := R 14) rfl rfl rfl rfl (by decide) (by decide) rfl rfl).trans rfl
theorem d_X1_copyFrom_12_61 (X : AMx) (R : Nat → Nat → Int32) (Z : Nat → Int32) (A : Nat → Nat → Int32) (Y : Nat → Int32) : am_D X 13 [.ref 12, .ref 61] (am_WH R Z A Y) = some (none, am_WH (am_up R 5 (am_rc 8 (R 5) (R 23))) Z A Y) := (am_row_copy (q := 13) (n := 8) (f := R 5) (q2 := 62) (g := R 23) rfl rfl rfl rfl (by decide) (by decide) rfl rfl).trans rfl
theorem d_X1_copyFrom_12_80 (X : AMx) (R : Nat → Nat → Int32) (Z : Nat → Int32) (A : Nat → Nat → Int32) (Y : Nat → Int32) : am_D X 13 [.ref 12, .ref 80] (am_WH R Z A Y) = some (none, am_WH (am_up R 5 (am_rc 8 (R 5) (R 32))) Z A Y) := (am_row_copy (q := 13) (n := 8) (f := R 5) (q2 := 81) (g := R 32) rfl rfl rfl rfl (by decide) (by decide) rfl rfl).trans rfl
theorem d_X1_copyFrom_14_37 (X : AMx) (R : Nat → Nat → Int32) (Z : Nat → Int32) (A : Nat → Nat → Int32) (Y : Nat → Int32) : am_D X 13 [.ref 14, .ref 37] (am_WH R Z A Y) = some (none, am_WH (am_up R 6 (am_rc 12 (R 6) (R 15))) Z A Y) := (am_row_copy (q := 15) (n := 12) (f := R 6) (q2 := 38) (g := R 15) rfl rfl rfl rfl (by decide) (by decide) rfl rfl).trans rfl
theorem d_X1_copyFrom_14_63 (X : AMx) (R : Nat → Nat → Int32) (Z : Nat → Int32) (A : Nat → Nat → Int32) (Y : Nat → Int32) : am_D X 13 [.ref 14, .ref 63] (am_WH R Z A Y) = some (none, am_WH (am_up R 6 (am_rc 12 (R 6) (R 24))) Z A Y) := (am_row_copy (q := 15) (n := 12) (f := R 6) (q2 := 64) (g := R 24) rfl rfl rfl rfl (by decide) (by decide) rfl rfl).trans rfl
theorem d_X1_copyFrom_14_82 (X : AMx) (R : Nat → Nat → Int32) (Z : Nat → Int32) (A : Nat → Nat → Int32) (Y : Nat → Int32) : am_D X 13 [.ref 14, .ref 82] (am_WH R Z A Y) = some (none, am_WH (am_up R 6 (am_rc 12 (R 6) (R 33))) Z A Y) := (am_row_copy (q := 15) (n := 12) (f := R 6) (q2 := 83) (g := R 33) rfl rfl rfl rfl (by decide) (by decide) rfl rfl).trans rfl
theorem d_X1_copyFrom_16_39 (X : AMx) (R : Nat → Nat → Int32) (Z : Nat → Int32) (A : Nat → Nat → Int32) (Y : Nat → Int32) : am_D X 13 [.ref 16, .ref 39] (am_WH R Z A Y) = some (none, am_WH (am_up R 7 (am_rc 12 (R 7) (R 16))) Z A Y) := (am_row_copy (q := 17) (n := 12) (f := R 7) (q2 := 40) (g := R 16) rfl rfl rfl rfl (by decide) (by decide) rfl rfl).trans rfl
theorem d_X1_copyFrom_16_65 (X : AMx) (R : Nat → Nat → Int32) (Z : Nat → Int32) (A : Nat → Nat → Int32) (Y : Nat → Int32) : am_D X 13 [.ref 16, .ref 65] (am_WH R Z A Y) = some (none, am_WH (am_up R 7 (am_rc 12 (R 7) (R 25))) Z A Y) := (am_row_copy (q := 17) (n := 12) (f := R 7) (q2 := 66) (g := R 25) rfl rfl rfl rfl (by decide) (by decide) rfl rfl).trans rfl
theorem d_X1_copyFrom_16_84 (X : AMx) (R : Nat → Nat → Int32) (Z : Nat → Int32) (A : Nat → Nat → Int32) (Y : Nat → Int32) : am_D X 13 [.ref 16, .ref 84] (am_WH R Z A Y) = some (none, am_WH (am_up R 7 (am_rc 12 (R 7) (R 34))) Z A Y) := (am_row_copy (q := 17) (n := 12) (f := R 7) (q2 := 85) (g := R 34) rfl rfl rfl rfl (by decide) (by decide) rfl rfl).trans rfl
theorem d_X1_copyFrom_18_41 (X : AMx) (R : Nat → Nat → Int32) (Z : Nat → Int32) (A : Nat → Nat → Int32) (Y : Nat → Int32) : am_D X 13 [.ref 18, .ref 41] (am_WH R Z A Y) = some (none, am_WH (am_up R 8 (am_rc 12 (R 8) (R 17))) Z A Y) := (am_row_copy (q := 19) (n := 12) (f := R 8) (q2 := 42) (g := R 17) rfl rfl rfl rfl (by decide) (by decide) rfl rfl).trans rfl
theorem d_X1_copyFrom_18_67 (X : AMx) (R : Nat → Nat → Int32) (Z : Nat → Int32) (A : Nat → Nat → Int32) (Y : Nat → Int32) : am_D X 13 [.ref 18, .ref 67] (am_WH R Z A Y) = some (none, am_WH (am_up R 8 (am_rc 12 (R 8) (R 26))) Z A Y) := (am_row_copy (q := 19) (n := 12) (f := R 8) (q2 := 68) (g := R 26) rfl rfl rfl rfl (by decide) (by decide) rfl rfl).trans rfl
theorem d_X1_copyFrom_18_86 (X : AMx) (R : Nat → Nat → Int32) (Z : Nat → Int32) (A : Nat → Nat → Int32) (Y : Nat → Int32) : am_D X 13 [.ref 18, .ref 86] (am_WH R Z A Y) = some (none, am_WH (am_up R 8 (am_rc 12 (R 8) (R 35))) Z A Y) := (am_row_copy (q := 19) (n := 12) (f := R 8) (q2 := 87) (g := R 35) rfl rfl rfl rfl (by decide) (by decide) rfl rfl).trans rfl
theorem d_X1_copyFrom_25_2 (X : AMx) (R : Nat → Nat → Int32) (Z : Nat → Int32) (A : Nat → Nat → Int32) (Y : Nat → Int32) : am_D X 13 [.ref 25, .ref 2] (am_WH R Z A Y) = some (none, am_WH (am_up R 9 (am_rc 3 (R 9) (R 0))) Z A Y) := (am_row_copy (q := 26) (n := 3) (f := R 9) (q2 := 3) (g := R 0) rfl rfl rfl rfl (by decide) (by decide) rfl rfl).trans rfl
theorem d_X1_copyFrom_27_4 (X : AMx) (R : Nat → Nat → Int32) (Z : Nat → Int32) (A : Nat → Nat → Int32) (Y : Nat → Int32) : am_D X 13 [.ref 27, .ref 4] (am_WH R Z A Y) = some (none, am_WH (am_up R 10 (am_rc 7 (R 10) (R 1))) Z A Y) := (am_row_copy (q := 28) (n := 7) (f := R 10) (q2 := 5) (g := R 1) rfl rfl rfl rfl (by decide) (by decide) rfl rfl).trans rfl
theorem d_X1_copyFrom_29_6 (X : AMx) (R : Nat → Nat → Int32) (Z : Nat → Int32) (A : Nat → Nat → Int32) (Y : Nat → Int32) : am_D X 13 [.ref 29, .ref 6] (am_WH R Z A Y) = some (none, am_WH (am_up R 11 (am_rc 7 (R 11) (R 2))) Z A Y) := (am_row_copy (q := 30) (n := 7) (f := R 11) (q2 := 7) (g := R 2) rfl rfl rfl rfl (by decide) (by decide) rfl rfl).trans rfl
theorem d_X1_copyFrom_31_8 (X : AMx) (R : Nat → Nat → Int32) (Z : Nat → Int32) (A : Nat → Nat → Int32) (Y : Nat → Int32) : am_D X 13 [.ref 31, .ref 8] (am_WH R Z A Y) = some (none, am_WH (am_up R 12 (am_rc 7 (R 12) (R 3))) Z A Y) := (am_row_copy (q := 32) (n := 7) (f := R 12) (q2 := 9) (g := R 3) rfl rfl rfl rfl (by decide) (by decide) rfl rfl).trans rfl
theorem d_X1_copyFrom_33_10 (X : AMx) (R : Nat → Nat → Int32) (Z : Nat → Int32) (A : Nat → Nat → Int32) (Y : Nat → Int32) : am_D X 13 [.ref 33, .ref 10] (am_WH R Z A Y) = some (none, am_WH (am_up R 13 (am_rc 8 (R 13) (R 4))) Z A Y) := (am_row_copy (q := 34) (n := 8) (f := R 13) (q2 := 11) (g := R 4) rfl rfl rfl rfl (by decide) (by decide) rfl rfl).trans rfl
theorem d_X1_copyFrom_35_12 (X : AMx) (R : Nat → Nat → Int32) (Z : Nat → Int32) (A : Nat → Nat → Int32) (Y : Nat → Int32) : am_D X 13 [.ref 35, .ref 12] (am_WH R Z A Y) = some (none, am_WH (am_up R 14 (am_rc 8 (R 14) (R 5))) Z A Y) := (am_row_copy (q := 36) (n := 8) (f := R 14) (q2 := 13) (g := R 5) rfl rfl rfl rfl (by decide) (by decide) rfl rfl).trans rfl
theorem d_X1_copyFrom_37_14 (X : AMx) (R : Nat → Nat → Int32) (Z : Nat → Int32) (A : Nat → Nat → Int32) (Y : Nat → Int32) : am_D X 13 [.ref 37, .ref 14] (am_WH R Z A Y) = some (none, am_WH (am_up R 15 (am_rc 12 (R 15) (R 6))) Z A Y) := (am_row_copy (q := 38) (n := 12) (f := R 15) (q2 := 15) (g := R 6) rfl rfl rfl rfl (by decide) (by decide) rfl rfl).trans rfl
theorem d_X1_copyFrom_39_16 (X : AMx) (R : Nat → Nat → Int32) (Z : Nat → Int32) (A : Nat → Nat → Int32) (Y : Nat → Int32) : am_D X 13 [.ref 39, .ref 16] (am_WH R Z A Y) = some (none, am_WH (am_up R 16 (am_rc 12 (R 16) (R 7))) Z A Y) := (am_row_copy (q := 40) (n := 12) (f := R 16) (q2 := 17) (g := R 7) rfl rfl rfl rfl (by decide) (by decide) rfl rfl).trans rfl
theorem d_X1_copyFrom_41_18 (X : AMx) (R : Nat → Nat → Int32) (Z : Nat → Int32) (A : Nat → Nat → Int32) (Y : Nat → Int32) : am_D X 13 [.ref 41, .ref 18] (am_WH R Z A Y) = some (none, am_WH (am_up R 17 (am_rc 12 (R 17) (R 8))) Z A Y) := (am_row_copy (q := 42) (n := 12) (f := R 17) (q2 := 19) (g := R 8) rfl rfl rfl rfl (by decide) (by decide) rfl rfl).trans rfl
theorem d_X1_copyFrom_44_4 (X : AMx) (R : Nat → Nat → Int32) (Z : Nat → Int32) (A : Nat → Nat → Int32) (Y : Nat → Int32) : am_D X 13 [.ref 44, .ref 4] (am_WH R Z A Y) = some (none, am_WH (am_up R 37 (am_rc 7 (R 37) (R 1))) Z A Y) := (am_row_copy (q := 45) (n := 7) (f := R 37) (q2 := 5) (g := R 1) rfl rfl rfl rfl (by decide) (by decide) rfl rfl).trans rfl
theorem d_X1_copyFrom_44_46 (X : AMx) (R : Nat → Nat → Int32) (Z : Nat → Int32) (A : Nat → Nat → Int32) (Y : Nat → Int32) : am_D X 13 [.ref 44, .ref 46] (am_WH R Z A Y) = some (none, am_WH (am_up R 37 (am_rc 7 (R 37) (R 38))) Z A Y) := (am_row_copy (q := 45) (n := 7) (f := R 37) (q2 := 47) (g := R 38) rfl rfl rfl rfl (by decide) (by decide) rfl rfl).trans rfl
theorem d_X1_copyFrom_51_2 (X : AMx) (R : Nat → Nat → Int32) (Z : Nat → Int32) (A : Nat → Nat → Int32) (Y : Nat → Int32) : am_D X 13 [.ref 51, .ref 2] (am_WH R Z A Y) = some (none, am_WH (am_up R 18 (am_rc 3 (R 18) (R 0))) Z A Y) := (am_row_copy (q := 52) (n := 3) (f := R 18) (q2 := 3) (g := R 0) rfl rfl rfl rfl (by decide) (by decide) rfl rfl).trans rfl
theorem d_X1_copyFrom_53_4 (X : AMx) (R : Nat → Nat → Int32) (Z : Nat → Int32) (A : Nat → Nat → Int32) (Y : Nat → Int32) : am_D X 13 [.ref 53, .ref 4] (am_WH R Z A Y) = some (none, am_WH (am_up R 19 (am_rc 7 (R 19) (R 1))) Z A Y) := (am_row_copy (q := 54) (n := 7) (f := R 19) (q2 := 5) (g := R 1) rfl rfl rfl rfl (by decide) (by decide) rfl rfl).trans rfl
theorem d_X1_copyFrom_55_6 (X : AMx) (R : Nat → Nat → Int32) (Z : Nat → Int32) (A : Nat → Nat → Int32) (Y : Nat → Int32) : am_D X 13 [.ref 55, .ref 6] (am_WH R Z A Y) = some (none, am_WH (am_up R 20 (am_rc 7 (R 20) (R 2))) Z A Y) := (am_row_copy (q := 56) (n := 7) (f := R 20) (q2 := 7) (g := R 2) rfl rfl rfl rfl (by decide) (by decide) rfl rfl).trans rfl
theorem d_X1_copyFrom_57_8 (X : AMx) (R : Nat → Nat → Int32) (Z : Nat → Int32) (A : Nat → Nat → Int32) (Y : Nat → Int32) : am_D X 13 [.ref 57, .ref 8] (am_WH R Z A Y) = some (none, am_WH (am_up R 21 (am_rc 7 (R 21) (R 3))) Z A Y) := (am_row_copy (q := 58) (n := 7) (f := R 21) (q2 := 9) (g := R 3) rfl rfl rfl rfl (by decide) (by decide) rfl rfl).trans rfl
theorem d_X1_copyFrom_59_10 (X : AMx) (R : Nat → Nat → Int32) (Z : Nat → Int32) (A : Nat → Nat → Int32) (Y : Nat → Int32) : am_D X 13 [.ref 59, .ref 10] (am_WH R Z A Y) = some (none, am_WH (am_up R 22 (am_rc 8 (R 22) (R 4))) Z A Y) := (am_row_copy (q := 60) (n := 8) (f := R 22) (q2 := 11) (g := R 4) rfl rfl rfl rfl (by decide) (by decide) rfl rfl).trans rfl
theorem d_X1_copyFrom_61_12 (X : AMx) (R : Nat → Nat → Int32) (Z : Nat → Int32) (A : Nat → Nat → Int32) (Y : Nat → Int32) : am_D X 13 [.ref 61, .ref 12] (am_WH R Z A Y) = some (none, am_WH (am_up R 23 (am_rc 8 (R 23) (R 5))) Z A Y) := (am_row_copy (q := 62) (n := 8) (f := R 23) (q2 := 13) (g := R 5) rfl rfl rfl rfl (by decide) (by decide) rfl rfl).trans rfl
theorem d_X1_copyFrom_63_14 (X : AMx) (R : Nat → Nat → Int32) (Z : Nat → Int32) (A : Nat → Nat → Int32) (Y : Nat → Int32) : am_D X 13 [.ref 63, .ref 14] (am_WH R Z A Y) = some (none, am_WH (am_up R 24 (am_rc 12 (R 24) (R 6))) Z A Y) := (am_row_copy (q := 64) (n := 12) (f := R 24) (q2 := 15) (g := R 6) rfl rfl rfl rfl (by decide) (by decide) rfl rfl).trans rfl
theorem d_X1_copyFrom_65_16 (X : AMx) (R : Nat → Nat → Int32) (Z : Nat → Int32) (A : Nat → Nat → Int32) (Y : Nat → Int32) : am_D X 13 [.ref 65, .ref 16] (am_WH R Z A Y) = some (none, am_WH (am_up R 25 (am_rc 12 (R 25) (R 7))) Z A Y) := (am_row_copy (q := 66) (n := 12) (f := R 25) (q2 := 17) (g := R 7) rfl rfl rfl rfl (by decide) (by decide) rfl rfl).trans rfl
theorem d_X1_copyFrom_67_18 (X : AMx) (R : Nat → Nat → Int32) (Z : Nat → Int32) (A : Nat → Nat → Int32) (Y : Nat → Int32) : am_D X 13 [.ref 67, .ref 18] (am_WH R Z A Y) = some (none, am_WH (am_up R 26 (am_rc 12 (R 26) (R 8))) Z A Y) := (am_row_copy (q := 68) (n := 12) (f := R 26) (q2 := 19) (g := R 8) rfl rfl rfl rfl (by decide) (by decide) rfl rfl).trans rfl
theorem d_X1_copyFrom_70_2 (X : AMx) (R : Nat → Nat → Int32) (Z : Nat → Int32) (A : Nat → Nat → Int32) (Y : Nat → Int32) : am_D X 13 [.ref 70, .ref 2] (am_WH R Z A Y) = some (none, am_WH (am_up R 27 (am_rc 3 (R 27) (R 0))) Z A Y) := (am_row_copy (q := 71) (n := 3) (f := R 27) (q2 := 3) (g := R 0) rfl rfl rfl rfl (by decide) (by decide) rfl rfl).trans rfl
theorem d_X1_copyFrom_72_4 (X : AMx) (R : Nat → Nat → Int32) (Z : Nat → Int32) (A : Nat → Nat → Int32) (Y : Nat → Int32) : am_D X 13 [.ref 72, .ref 4] (am_WH R Z A Y) = some (none, am_WH (am_up R 28 (am_rc 7 (R 28) (R 1))) Z A Y) := (am_row_copy (q := 73) (n := 7) (f := R 28) (q2 := 5) (g := R 1) rfl rfl rfl rfl (by decide) (by decide) rfl rfl).trans rfl
theorem d_X1_copyFrom_74_6 (X : AMx) (R : Nat → Nat → Int32) (Z : Nat → Int32) (A : Nat → Nat → Int32) (Y : Nat → Int32) : am_D X 13 [.ref 74, .ref 6] (am_WH R Z A Y) = some (none, am_WH (am_up R 29 (am_rc 7 (R 29) (R 2))) Z A Y) := (am_row_copy (q := 75) (n := 7) (f := R 29) (q2 := 7) (g := R 2) rfl rfl rfl rfl (by decide) (by decide) rfl rfl).trans rfl
theorem d_X1_copyFrom_76_8 (X : AMx) (R : Nat → Nat → Int32) (Z : Nat → Int32) (A : Nat → Nat → Int32) (Y : Nat → Int32) : am_D X 13 [.ref 76, .ref 8] (am_WH R Z A Y) = some (none, am_WH (am_up R 30 (am_rc 7 (R 30) (R 3))) Z A Y) := (am_row_copy (q := 77) (n := 7) (f := R 30) (q2 := 9) (g := R 3) rfl rfl rfl rfl (by decide) (by decide) rfl rfl).trans rfl
theorem d_X1_copyFrom_78_10 (X : AMx) (R : Nat → Nat → Int32) (Z : Nat → Int32) (A : Nat → Nat → Int32) (Y : Nat → Int32) : am_D X 13 [.ref 78, .ref 10] (am_WH R Z A Y) = some (none, am_WH (am_up R 31 (am_rc 8 (R 31) (R 4))) Z A Y) := (am_row_copy (q := 79) (n := 8) (f := R 31) (q2 := 11) (g := R 4) rfl rfl rfl rfl (by decide) (by decide) rfl rfl).trans rfl
theorem d_X1_copyFrom_80_12 (X : AMx) (R : Nat → Nat → Int32) (Z : Nat → Int32) (A : Nat → Nat → Int32) (Y : Nat → Int32) : am_D X 13 [.ref 80, .ref 12] (am_WH R Z A Y) = some (none, am_WH (am_up R 32 (am_rc 8 (R 32) (R 5))) Z A Y) := (am_row_copy (q := 81) (n := 8) (f := R 32) (q2 := 13) (g := R 5) rfl rfl rfl rfl (by decide) (by decide) rfl rfl).trans rfl
theorem d_X1_copyFrom_82_14 (X : AMx) (R : Nat → Nat → Int32) (Z : Nat → Int32) (A : Nat → Nat → Int32) (Y : Nat → Int32) : am_D X 13 [.ref 82, .ref 14] (am_WH R Z A Y) = some (none, am_WH (am_up R 33 (am_rc 12 (R 33) (R 6))) Z A Y) := (am_row_copy (q := 83) (n := 12) (f := R 33) (q2 := 15) (g := R 6) rfl rfl rfl rfl (by decide) (by decide) rfl rfl).trans rfl
theorem d_X1_copyFrom_84_16 (X : AMx) (R : Nat → Nat → Int32) (Z : Nat → Int32) (A : Nat → Nat → Int32) (Y : Nat → Int32) : am_D X 13 [.ref 84, .ref 16] (am_WH R Z A Y) = some (none, am_WH (am_up R 34 (am_rc 12 (R 34) (R 7))) Z A Y) := (am_row_copy (q := 85) (n := 12) (f := R 34) (q2 := 17) (g := R 7) rfl rfl rfl rfl (by decide) (by decide) rfl rfl).trans rfl
theorem d_X1_copyFrom_86_18 (X : AMx) (R : Nat → Nat → Int32) (Z : Nat → Int32) (A : Nat → Nat → Int32) (Y : Nat → Int32) : am_D X 13 [.ref 86, .ref 18] (am_WH R Z A Y) = some (none, am_WH (am_up R 35 (am_rc 12 (R 35) (R 8))) Z A Y) := (am_row_copy (q := 87) (n := 12) (f := R 35) (q2 := 19) (g := R 8) rfl rfl rfl rfl (by decide) (by decide) rfl rfl).trans rfl
theorem d_X1_get_2 (X : AMx) (R : Nat → Nat → Int32) (Z : Nat → Int32) (A : Nat → Nat → Int32) (Y : Nat → Int32) (i : Int32) : am_D X 11 [.ref 2, .int i] (am_WH R Z A Y) = some (some (.int (am_rg 3 (R 0) i)), am_WH R Z A Y) := am_row_get (q := 3) rfl rfl (by decide) rfl
theorem d_X1_get_4 (X : AMx) (R : Nat → Nat → Int32) (Z : Nat → Int32) (A : Nat → Nat → Int32) (Y : Nat → Int32) (i : Int32) : am_D X 11 [.ref 4, .int i] (am_WH R Z A Y) = some (some (.int (am_rg 7 (R 1) i)), am_WH R Z A Y) := am_row_get (q := 5) rfl rfl (by decide) rfl
theorem d_X1_get_6 (X : AMx) (R : Nat → Nat → Int32) (Z : Nat → Int32) (A : Nat → Nat → Int32) (Y : Nat → Int32) (i : Int32) : am_D X 11 [.ref 6, .int i] (am_WH R Z A Y) = some (some (.int (am_rg 7 (R 2) i)), am_WH R Z A Y) := am_row_get (q := 7) rfl rfl (by decide) rfl
theorem d_X1_get_8 (X : AMx) (R : Nat → Nat → Int32) (Z : Nat → Int32) (A : Nat → Nat → Int32) (Y : Nat → Int32) (i : Int32) : am_D X 11 [.ref 8, .int i] (am_WH R Z A Y) = some (some (.int (am_rg 7 (R 3) i)), am_WH R Z A Y) := am_row_get (q := 9) rfl rfl (by decide) rfl
theorem d_X1_get_10 (X : AMx) (R : Nat → Nat → Int32) (Z : Nat → Int32) (A : Nat → Nat → Int32) (Y : Nat → Int32) (i : Int32) : am_D X 11 [.ref 10, .int i] (am_WH R Z A Y) = some (some (.int (am_rg 8 (R 4) i)), am_WH R Z A Y) := am_row_get (q := 11) rfl rfl (by decide) rfl
theorem d_X1_get_12 (X : AMx) (R : Nat → Nat → Int32) (Z : Nat → Int32) (A : Nat → Nat → Int32) (Y : Nat → Int32) (i : Int32) : am_D X 11 [.ref 12, .int i] (am_WH R Z A Y) = some (some (.int (am_rg 8 (R 5) i)), am_WH R Z A Y) := am_row_get (q := 13) rfl rfl (by decide) rfl
theorem d_X1_get_14 (X : AMx) (R : Nat → Nat → Int32) (Z : Nat → Int32) (A : Nat → Nat → Int32) (Y : Nat → Int32) (i : Int32) : am_D X 11 [.ref 14, .int i] (am_WH R Z A Y) = some (some (.int (am_rg 12 (R 6) i)), am_WH R Z A Y) := am_row_get (q := 15) rfl rfl (by decide) rfl
theorem d_X1_get_16 (X : AMx) (R : Nat → Nat → Int32) (Z : Nat → Int32) (A : Nat → Nat → Int32) (Y : Nat → Int32) (i : Int32) : am_D X 11 [.ref 16, .int i] (am_WH R Z A Y) = some (some (.int (am_rg 12 (R 7) i)), am_WH R Z A Y) := am_row_get (q := 17) rfl rfl (by decide) rfl
theorem d_X1_get_18 (X : AMx) (R : Nat → Nat → Int32) (Z : Nat → Int32) (A : Nat → Nat → Int32) (Y : Nat → Int32) (i : Int32) : am_D X 11 [.ref 18, .int i] (am_WH R Z A Y) = some (some (.int (am_rg 12 (R 8) i)), am_WH R Z A Y) := am_row_get (q := 19) rfl rfl (by decide) rfl
theorem d_X1_get_21 (X : AMx) (R : Nat → Nat → Int32) (Z : Nat → Int32) (A : Nat → Nat → Int32) (Y : Nat → Int32) (i : Int32) : am_D X 11 [.ref 21, .int i] (am_WH R Z A Y) = some (some (.int (am_rg 60 (R 36) i)), am_WH R Z A Y) := am_row_get (q := 22) rfl rfl (by decide) rfl
theorem d_X1_get_25 (X : AMx) (R : Nat → Nat → Int32) (Z : Nat → Int32) (A : Nat → Nat → Int32) (Y : Nat → Int32) (i : Int32) : am_D X 11 [.ref 25, .int i] (am_WH R Z A Y) = some (some (.int (am_rg 3 (R 9) i)), am_WH R Z A Y) := am_row_get (q := 26) rfl rfl (by decide) rfl
theorem d_X1_get_27 (X : AMx) (R : Nat → Nat → Int32) (Z : Nat → Int32) (A : Nat → Nat → Int32) (Y : Nat → Int32) (i : Int32) : am_D X 11 [.ref 27, .int i] (am_WH R Z A Y) = some (some (.int (am_rg 7 (R 10) i)), am_WH R Z A Y) := am_row_get (q := 28) rfl rfl (by decide) rfl
theorem d_X1_get_29 (X : AMx) (R : Nat → Nat → Int32) (Z : Nat → Int32) (A : Nat → Nat → Int32) (Y : Nat → Int32) (i : Int32) : am_D X 11 [.ref 29, .int i] (am_WH R Z A Y) = some (some (.int (am_rg 7 (R 11) i)), am_WH R Z A Y) := am_row_get (q := 30) rfl rfl (by decide) rfl
theorem d_X1_get_33 (X : AMx) (R : Nat → Nat → Int32) (Z : Nat → Int32) (A : Nat → Nat → Int32) (Y : Nat → Int32) (i : Int32) : am_D X 11 [.ref 33, .int i] (am_WH R Z A Y) = some (some (.int (am_rg 8 (R 13) i)), am_WH R Z A Y) := am_row_get (q := 34) rfl rfl (by decide) rfl
theorem d_X1_get_35 (X : AMx) (R : Nat → Nat → Int32) (Z : Nat → Int32) (A : Nat → Nat → Int32) (Y : Nat → Int32) (i : Int32) : am_D X 11 [.ref 35, .int i] (am_WH R Z A Y) = some (some (.int (am_rg 8 (R 14) i)), am_WH R Z A Y) := am_row_get (q := 36) rfl rfl (by decide) rfl
theorem d_X1_get_44 (X : AMx) (R : Nat → Nat → Int32) (Z : Nat → Int32) (A : Nat → Nat → Int32) (Y : Nat → Int32) (i : Int32) : am_D X 11 [.ref 44, .int i] (am_WH R Z A Y) = some (some (.int (am_rg 7 (R 37) i)), am_WH R Z A Y) := am_row_get (q := 45) rfl rfl (by decide) rfl
theorem d_X1_get_48 (X : AMx) (R : Nat → Nat → Int32) (Z : Nat → Int32) (A : Nat → Nat → Int32) (Y : Nat → Int32) (i : Int32) : am_D X 11 [.ref 48, .int i] (am_WH R Z A Y) = some (some (.int (am_rg 69 (R 39) i)), am_WH R Z A Y) := am_row_get (q := 49) rfl rfl (by decide) rfl
theorem d_X1_set_2 (X : AMx) (R : Nat → Nat → Int32) (Z : Nat → Int32) (A : Nat → Nat → Int32) (Y : Nat → Int32) (i x : Int32) : am_D X 12 [.ref 2, .int i, .int x] (am_WH R Z A Y) = some (none, am_WH (am_up R 0 (am_rs 3 (R 0) i x)) Z A Y) := (am_row_set (q := 3) (n := 3) (f := R 0) rfl rfl (by decide) rfl).trans rfl
theorem d_X1_set_4 (X : AMx) (R : Nat → Nat → Int32) (Z : Nat → Int32) (A : Nat → Nat → Int32) (Y : Nat → Int32) (i x : Int32) : am_D X 12 [.ref 4, .int i, .int x] (am_WH R Z A Y) = some (none, am_WH (am_up R 1 (am_rs 7 (R 1) i x)) Z A Y) := (am_row_set (q := 5) (n := 7) (f := R 1) rfl rfl (by decide) rfl).trans rfl
theorem d_X1_set_6 (X : AMx) (R : Nat → Nat → Int32) (Z : Nat → Int32) (A : Nat → Nat → Int32) (Y : Nat → Int32) (i x : Int32) : am_D X 12 [.ref 6, .int i, .int x] (am_WH R Z A Y) = some (none, am_WH (am_up R 2 (am_rs 7 (R 2) i x)) Z A Y) := (am_row_set (q := 7) (n := 7) (f := R 2) rfl rfl (by decide) rfl).trans rfl
theorem d_X1_set_8 (X : AMx) (R : Nat → Nat → Int32) (Z : Nat → Int32) (A : Nat → Nat → Int32) (Y : Nat → Int32) (i x : Int32) : am_D X 12 [.ref 8, .int i, .int x] (am_WH R Z A Y) = some (none, am_WH (am_up R 3 (am_rs 7 (R 3) i x)) Z A Y) := (am_row_set (q := 9) (n := 7) (f := R 3) rfl rfl (by decide) rfl).trans rfl
theorem d_X1_set_14 (X : AMx) (R : Nat → Nat → Int32) (Z : Nat → Int32) (A : Nat → Nat → Int32) (Y : Nat → Int32) (i x : Int32) : am_D X 12 [.ref 14, .int i, .int x] (am_WH R Z A Y) = some (none, am_WH (am_up R 6 (am_rs 12 (R 6) i x)) Z A Y) := (am_row_set (q := 15) (n := 12) (f := R 6) rfl rfl (by decide) rfl).trans rfl
theorem d_X1_set_16 (X : AMx) (R : Nat → Nat → Int32) (Z : Nat → Int32) (A : Nat → Nat → Int32) (Y : Nat → Int32) (i x : Int32) : am_D X 12 [.ref 16, .int i, .int x] (am_WH R Z A Y) = some (none, am_WH (am_up R 7 (am_rs 12 (R 7) i x)) Z A Y) := (am_row_set (q := 17) (n := 12) (f := R 7) rfl rfl (by decide) rfl).trans rfl
theorem d_X1_set_18 (X : AMx) (R : Nat → Nat → Int32) (Z : Nat → Int32) (A : Nat → Nat → Int32) (Y : Nat → Int32) (i x : Int32) : am_D X 12 [.ref 18, .int i, .int x] (am_WH R Z A Y) = some (none, am_WH (am_up R 8 (am_rs 12 (R 8) i x)) Z A Y) := (am_row_set (q := 19) (n := 12) (f := R 8) rfl rfl (by decide) rfl).trans rfl
theorem d_X1_set_21 (X : AMx) (R : Nat → Nat → Int32) (Z : Nat → Int32) (A : Nat → Nat → Int32) (Y : Nat → Int32) (i x : Int32) : am_D X 12 [.ref 21, .int i, .int x] (am_WH R Z A Y) = some (none, am_WH (am_up R 36 (am_rs 60 (R 36) i x)) Z A Y) := (am_row_set (q := 22) (n := 60) (f := R 36) rfl rfl (by decide) rfl).trans rfl
theorem d_X1_set_27 (X : AMx) (R : Nat → Nat → Int32) (Z : Nat → Int32) (A : Nat → Nat → Int32) (Y : Nat → Int32) (i x : Int32) : am_D X 12 [.ref 27, .int i, .int x] (am_WH R Z A Y) = some (none, am_WH (am_up R 10 (am_rs 7 (R 10) i x)) Z A Y) := (am_row_set (q := 28) (n := 7) (f := R 10) rfl rfl (by decide) rfl).trans rfl
theorem d_X1_set_29 (X : AMx) (R : Nat → Nat → Int32) (Z : Nat → Int32) (A : Nat → Nat → Int32) (Y : Nat → Int32) (i x : Int32) : am_D X 12 [.ref 29, .int i, .int x] (am_WH R Z A Y) = some (none, am_WH (am_up R 11 (am_rs 7 (R 11) i x)) Z A Y) := (am_row_set (q := 30) (n := 7) (f := R 11) rfl rfl (by decide) rfl).trans rfl
theorem d_X1_set_33 (X : AMx) (R : Nat → Nat → Int32) (Z : Nat → Int32) (A : Nat → Nat → Int32) (Y : Nat → Int32) (i x : Int32) : am_D X 12 [.ref 33, .int i, .int x] (am_WH R Z A Y) = some (none, am_WH (am_up R 13 (am_rs 8 (R 13) i x)) Z A Y) := (am_row_set (q := 34) (n := 8) (f := R 13) rfl rfl (by decide) rfl).trans rfl
theorem d_X1_set_35 (X : AMx) (R : Nat → Nat → Int32) (Z : Nat → Int32) (A : Nat → Nat → Int32) (Y : Nat → Int32) (i x : Int32) : am_D X 12 [.ref 35, .int i, .int x] (am_WH R Z A Y) = some (none, am_WH (am_up R 14 (am_rs 8 (R 14) i x)) Z A Y) := (am_row_set (q := 36) (n := 8) (f := R 14) rfl rfl (by decide) rfl).trans rfl
theorem d_X1_set_46 (X : AMx) (R : Nat → Nat → Int32) (Z : Nat → Int32) (A : Nat → Nat → Int32) (Y : Nat → Int32) (i x : Int32) : am_D X 12 [.ref 46, .int i, .int x] (am_WH R Z A Y) = some (none, am_WH (am_up R 38 (am_rs 7 (R 38) i x)) Z A Y) := (am_row_set (q := 47) (n := 7) (f := R 38) rfl rfl (by decide) rfl).trans rfl
theorem d_X1_set_48 (X : AMx) (R : Nat → Nat → Int32) (Z : Nat → Int32) (A : Nat → Nat → Int32) (Y : Nat → Int32) (i x : Int32) : am_D X 12 [.ref 48, .int i, .int x] (am_WH R Z A Y) = some (none, am_WH (am_up R 39 (am_rs 69 (R 39) i x)) Z A Y) := (am_row_set (q := 49) (n := 69) (f := R 39) rfl rfl (by decide) rfl).trans rfl
