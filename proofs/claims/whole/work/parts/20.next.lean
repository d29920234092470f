/-! next: the lean to ask. -/
def aw_mx (f : Nat → Nat) : Nat → Nat
  | 0 => 0
  | n + 1 => if aw_mx f n < f n then f n else aw_mx f n
theorem aw_mx_le {f : Nat → Nat} {B : Nat} : ∀ {n : Nat}, (∀ j, j < n → f j ≤ B) → aw_mx f n ≤ B
  | 0, _ => Nat.zero_le _
  | n + 1, h => by
    have ih := aw_mx_le (n := n) (fun j hj => h j (by omega))
    have hn := h n (by omega)
    rw [aw_mx]
    split <;> omega
theorem aw_mx_ge {f : Nat → Nat} : ∀ {n j : Nat}, j < n → f j ≤ aw_mx f n
  | 0, j, h => absurd h (Nat.not_lt_zero j)
  | n + 1, j, h => by
    rw [aw_mx]
    by_cases e : j = n
    · subst e; split <;> omega
    · have ih := aw_mx_ge (f := f) (n := n) (j := j) (by omega)
      split <;> omega
theorem aw_mx_0 {f : Nat → Nat} : ∀ {n : Nat}, (∀ j, j < n → f j = 0) → aw_mx f n = 0 := fun {n} h => by
  have := aw_mx_le (f := f) (B := 0) (n := n) (fun j hj => by rw [h j hj]; exact Nat.le_refl 0)
  omega
/-- of a set, those that are so to the lean of place k -/
def aw_cc (P : Nat → Bool) (k j : Nat) (n : Nat) : Nat := fb_ct (fun v => P v && decide (am_how (nI v - 9) (nI k - 9) = nI j)) n
/-- the most that can be left -/
def aw_W (P : Nat → Bool) (k : Nat) : Nat := aw_mx (fun j => aw_cc P k j 19) 3
theorem aw_cc_le (P : Nat → Bool) (k j n : Nat) : aw_cc P k j n ≤ n := fb_ct_le _ n
theorem aw_W_le (P : Nat → Bool) (k : Nat) : aw_W P k ≤ 19 := aw_mx_le (fun j _ => aw_cc_le P k j 19)
theorem am_how_3 (x l : Int32) : ∃ j, j < 3 ∧ am_how x l = nI j := by
  unfold am_how
  split
  · exact ⟨0, by omega, rfl⟩
  · split
    · exact ⟨1, by omega, rfl⟩
    · exact ⟨2, by omega, rfl⟩
theorem aw_ct_pos {p : Nat → Bool} {v n : Nat} (hv : v < n) (hp : p v = true) : 0 < fb_ct p n := by
  have h1 := fb_ct_mono p (show v + 1 ≤ n by omega)
  have h2 := fb_ct_succ p v
  rw [if_pos hp] at h2
  omega
theorem aw_W_pos {P : Nat → Bool} (k : Nat) {v : Nat} (hv : v < 19) (hP : P v = true) : 0 < aw_W P k := by
  obtain ⟨j, hj, e⟩ := am_how_3 (nI v - 9) (nI k - 9)
  have h1 : 0 < aw_cc P k j 19 := aw_ct_pos hv (by rw [hP, e]; simp)
  have h2 : aw_cc P k j 19 ≤ aw_W P k := aw_mx_ge (f := fun j => aw_cc P k j 19) hj
  omega
theorem aw_ct_no {p : Nat → Bool} : ∀ {n : Nat}, (∀ v, v < n → p v = false) → fb_ct p n = 0
  | 0, _ => rfl
  | n + 1, h => by rw [fb_ct_succ, aw_ct_no (fun v hv => h v (by omega)), h n (by omega)]; rfl
theorem aw_W_no {P : Nat → Bool} (k : Nat) (h : ∀ v, v < 19 → P v = false) : aw_W P k = 0 := aw_mx_0 (fun j _ => aw_ct_no (fun v hv => by rw [h v hv]; rfl))
theorem aw_imx {a b : Nat} (ha : a < 2 ^ 31) (hb : b < 2 ^ 31) : (if nI a < nI b then nI b else nI a) = nI (if a < b then b else a) := by
  by_cases h : a < b
  · rw [if_pos h, if_pos ((nI_ltI ha hb).mpr h)]
  · rw [if_neg h, if_neg (fun z => h ((nI_ltI ha hb).mp z))]
theorem s_mostLeftBy (X : AMx) (R : Nat → Nat → Int32) (Z : Nat → Int32) (A : Nat → Nat → Int32) (Y : Nat → Int32) (h6 : am_rn (Z 6) 0 524287) {k : Nat} (hk : k < 19) : am_D X 88 [.ref 0, .int (nI k - 9)] (am_WH R Z A Y) = some (some (.int (nI (aw_W (bt (Z 6)) k))), am_WH R Z A Y) := by
  rw [d_X5_mostLeftBy, b_X5_mostLeftBy_0]
  refine am_loop (E := fun j => am_E X AM_X5_mostLeftBy 4 [some (.ref 0), some (.int (nI k - 9)), some (.int (nI (aw_mx (fun j => aw_cc (bt (Z 6)) k j 19) j))), some (.int (nI j))] [] (am_WH R Z A Y)) 3 ?_ ?_
  · try dsimp only
    rw [b_X5_mostLeftBy_4, if_pos (show (2 : Int32) < nI 3 by decide), b_X5_mostLeftBy_36]
    rfl
  · intro j hj
    try dsimp only
    have e6 : am_rn (Z 6 &&& aw_dt (nI j) k) 0 (2 ^ 19 - 1) := b_rn (k := 19) (by omega) (fun i h h32 => by
      rw [b_and, am_rnb h6 (k := 19) (by omega) h]; rfl)
    have ec : fb_ct (bt (Z 6 &&& aw_dt (nI j) k)) 24 = aw_cc (bt (Z 6)) k j 19 := by
      rw [am_ct_small (k := 19) (n := 24) e6 (by omega)]
      exact fb_ct_cong (fun v hv => by rw [b_and, aw_dt_bt j hj k hk v (by omega), decide_eq_true hv, Bool.true_and])
    have b1 := aw_cc_le (bt (Z 6)) k j 19
    have b2 : aw_mx (fun j => aw_cc (bt (Z 6)) k j 19) j ≤ 19 := aw_mx_le (fun j _ => aw_cc_le (bt (Z 6)) k j 19)
    rw [b_X5_mostLeftBy_4, if_neg ((by decide +kernel : ∀ j, j < 3 → ¬ (2 : Int32) < nI j) j hj), b_X5_mostLeftBy_9, s_downsThat X _ _ hk, am_C_v, b_X5_mostLeftBy_22, s_bitCount X _ (am_rnw e6 (Int.le_refl _) (by omega)), am_C_v, b_X5_mostLeftBy_26, nI_1, ec, aw_imx (by omega) (by omega)]
    rfl
/-- the class's loop of next -/
theorem l_cnext (X : AMx) (R : Nat → Nat → Int32) (Z : Nat → Int32) (A : Nat → Nat → Int32) (Y : Nat → Int32) (h6 : am_rn (Z 6) 0 524287) (b : Int32) {B : Nat} (hB : am_bst (fun _ => true) (aw_W (bt (Z 6))) 19 = some B) : ∀ d k c, k + d = 19 → am_bst (fun _ => true) (aw_W (bt (Z 6))) k = some c → am_E X AM_X5_next 32 [some (.ref 0), some (.int b), some (.int (nI c - 9)), some (.int (nI k - 9))] [] (am_WH R Z A Y) = some (some (.int (if b = 0 then nI B - 9 + 10 else nI (aw_W (bt (Z 6)) B))), am_WH R Z A Y) := by
  intro d
  induction d with
  | zero =>
    intro k c hk hc
    obtain rfl : k = 19 := by omega
    rw [hB] at hc
    obtain rfl := Option.some.inj hc
    rw [b_X5_next_32, if_pos (show (9 : Int32) < nI 19 - 9 by decide), b_X5_next_59]
    by_cases g : b = 0
    · rw [if_pos g, if_pos g, b_X5_next_63]
    · rw [if_neg g, if_neg g, b_X5_next_70, s_mostLeftBy X R Z A Y h6 (am_bst_le hB).1, am_C_v, b_X5_next_75]
  | succ d ih =>
    intro k c hk hc
    have hk19 : k < 19 := by omega
    have hcl := (am_bst_le hc).1
    have hn := am_bst_s hc
    have b1 := aw_W_le (bt (Z 6)) k
    have b2 := aw_W_le (bt (Z 6)) c
    rw [b_X5_next_32, if_neg (am_ln_lt hk19), b_X5_next_38, s_mostLeftBy X R Z A Y h6 hk19, am_C_v, b_X5_next_43, s_mostLeftBy X R Z A Y h6 (by omega), am_C_v, b_X5_next_48]
    by_cases g : aw_W (bt (Z 6)) k < aw_W (bt (Z 6)) c
    · rw [if_neg (fun z => by have := (nI_leI (by omega) (by omega)).mp z; omega), b_X5_next_51, am_ln_1 hk19]
      exact ih (k + 1) k (by omega) (by rw [hn, if_pos ⟨rfl, g⟩])
    · rw [if_pos ((nI_leI (by omega) (by omega)).mpr (by omega)), b_X5_next_53, am_ln_1 hk19]
      exact ih (k + 1) c (by omega) (by rw [hn, if_neg (fun z => g z.2)])
theorem l_mnext1 (X : AMx) (R : Nat → Nat → Int32) (Z : Nat → Int32) (A : Nat → Nat → Int32) (Y : Nat → Int32) (l1 l2 l3 l4 l5 : Int32) : ∀ d k g, k + d = 3 → (∀ j, j < k → g j = 0) → ∃ g', (∀ j, j < 3 → g' j = 0) ∧ am_E X AM_X6_next 35 [some (.ref 88), some (.int l1), some (.int l2), some (.int l3), some (.int l4), some (.int l5), some (.int (nI k))] [] (am_WH R Z (am_up A 10 g) Y) = am_E X AM_X6_next 55 [some (.ref 88), some (.int l1), some (.int l2), some (.int l3), some (.int l4), some (.int l5), some (.int (nI 3))] [] (am_WH R Z (am_up A 10 g') Y) := by
  intro d
  induction d with
  | zero =>
    intro k g hk hg
    obtain rfl : k = 3 := by omega
    rw [b_X6_next_35, if_pos (show (3 : Int32) ≤ nI 3 by decide)]
    exact ⟨g, hg, rfl⟩
  | succ d ih =>
    intro k g hk hg
    rw [b_X6_next_35, if_neg (show ¬ (3 : Int32) ≤ nI k from nI_ge (a := k) (b := 3) (by omega) (by omega)), b_X6_next_41, if_pos (am_in_nI (by omega) (by omega)), am_cl (by omega), am_up_s, am_uu, b_X6_next_49, nI_1]
    refine ih (k + 1) (upd g k 0) (by omega) (fun j hj => ?_)
    by_cases e : j = k
    · subst e; exact upd_s _ _ _
    · rw [upd_n _ _ e]; exact hg j (by omega)
theorem l_mnext2 (X : AMx) (R : Nat → Nat → Int32) (Z : Nat → Int32) (A : Nat → Nat → Int32) (Y : Nat → Int32) {n : Nat} (hn : n ≤ 8) (hY : Y 3 = nI n) {P : Nat → Bool} (hP : ∀ v, v < 19 → (P v = true ↔ am_fit (A 7) n (nI v - 9))) (l1 l2 l3 l5 : Int32) {k : Nat} (hk : k < 19) : ∀ d v g, v + d = 19 → (∀ j, j < 3 → g j = nI (aw_cc P k j v)) → ∃ g', (∀ j, j < 3 → g' j = nI (aw_cc P k j 19)) ∧ am_E X AM_X6_next 59 [some (.ref 88), some (.int l1), some (.int l2), some (.int l3), some (.int (nI k - 9)), some (.int l5), some (.int (nI v - 9))] [] (am_WH R Z (am_up A 10 g) Y) = am_E X AM_X6_next 101 [some (.ref 88), some (.int l1), some (.int l2), some (.int l3), some (.int (nI k - 9)), some (.int l5), some (.int (nI 19 - 9))] [] (am_WH R Z (am_up A 10 g') Y) := by
  intro d
  induction d with
  | zero =>
    intro v g hv hg
    obtain rfl : v = 19 := by omega
    rw [b_X6_next_59, if_pos (show (10 : Int32) ≤ nI 19 - 9 by decide)]
    exact ⟨g, hg, rfl⟩
  | succ d ih =>
    intro v g hv hg
    have hv19 : v < 19 := by omega
    obtain ⟨j, hj, ej⟩ := am_how_3 (nI v - 9) (nI k - 9)
    rw [b_X6_next_59, if_neg ((by decide +kernel : ∀ k, k < 19 → ¬ (10 : Int32) ≤ nI k - 9) v hv19), b_X6_next_66, s_howIs, am_C_v, ej, b_X6_next_77, if_pos (am_in_nI hj (by omega)), am_cl (by omega), am_up_s, b_X6_next_79, s_fits X R Z (am_up A 10 g) Y (n := n) hn hY (nI v - 9) (p := P v = true) (hP v hv19), am_C_v, b_X6_next_85]
    have hc : ∀ i, i < 3 → aw_cc P k i (v + 1) = aw_cc P k i v + (if P v = true ∧ i = j then 1 else 0) := by
      intro i hi
      show fb_ct _ v + _ = _
      unfold aw_cc
      congr 1
      simp only [ej]
      by_cases g1 : P v = true
      · by_cases g2 : i = j
        · subst g2; simp [g1]
        · have : ¬ nI j = nI i := fun z => g2 ((nI_eq (by omega) (by omega)).mp z).symm
          simp [g1, g2, this]
      · simp [g1]
    by_cases g1 : P v = true
    · rw [am_bI_t g1, if_neg (by decide), b_X6_next_88, if_pos (am_in_nI hj (by omega)), am_cl (by omega), am_up_s, am_uu, b_X6_next_95, am_ln_1 hv19]
      refine ih (v + 1) _ (by omega) (fun i hi => ?_)
      rw [hc i hi]
      by_cases e : i = j
      · subst e; rw [upd_s, if_pos ⟨g1, rfl⟩, hg i hi, nI_1]
      · rw [upd_n _ _ e, if_neg (fun z => e z.2), hg i hi, Nat.add_zero]
    · rw [am_bI_f g1, if_pos rfl, b_X6_next_92, if_pos (am_in_nI hj (by omega)), am_cl (by omega), am_up_s, am_uu, b_X6_next_95, am_ln_1 hv19, Int32.add_zero]
      refine ih (v + 1) _ (by omega) (fun i hi => ?_)
      rw [hc i hi, if_neg (fun z => g1 z.1), Nat.add_zero]
      by_cases e : i = j
      · subst e; rw [upd_s, hg i hi]
      · rw [upd_n _ _ e, hg i hi]
theorem l_mnext3 (X : AMx) (R : Nat → Nat → Int32) (Z : Nat → Int32) (A : Nat → Nat → Int32) (Y : Nat → Int32) {c : Nat → Nat} (hc : ∀ j, j < 3 → c j < 1000 ∧ A 10 j = nI (c j)) (l1 l2 l3 l4 : Int32) : am_E X AM_X6_next 104 [some (.ref 88), some (.int l1), some (.int l2), some (.int l3), some (.int l4), some (.int 0), some (.int 0)] [] (am_WH R Z A Y) = am_E X AM_X6_next 142 [some (.ref 88), some (.int l1), some (.int l2), some (.int l3), some (.int l4), some (.int (nI (aw_mx c 3))), some (.int (nI 3))] [] (am_WH R Z A Y) := by
  refine am_loop (E := fun k => am_E X AM_X6_next 104 [some (.ref 88), some (.int l1), some (.int l2), some (.int l3), some (.int l4), some (.int (nI (aw_mx c k))), some (.int (nI k))] [] (am_WH R Z A Y)) 3 ?_ ?_
  · try dsimp only
    rw [b_X6_next_104, if_pos (show (3 : Int32) ≤ nI 3 by decide)]
  · intro k hk
    try dsimp only
    have b1 : aw_mx c k ≤ 1000 := aw_mx_le (fun j hj => by have := (hc j (by omega)).1; omega)
    have b2 := (hc k hk).1
    rw [b_X6_next_104, if_neg (show ¬ (3 : Int32) ≤ nI k from nI_ge (a := k) (b := 3) (by omega) (by omega)), b_X6_next_110, if_pos (am_in_nI hk (by omega)), am_cl (by omega), b_X6_next_117, (hc k hk).2]
    by_cases g : aw_mx c k < c k
    · rw [if_neg (fun z => by have := (nI_leI (by omega) (by omega)).mp z; omega), b_X6_next_122, if_pos (am_in_nI hk (by omega)), am_cl (by omega), b_X6_next_129, (hc k hk).2, nI_1, aw_mx, if_pos g]
    · rw [if_pos ((nI_leI (by omega) (by omega)).mpr (by omega)), b_X6_next_132, nI_1, aw_mx, if_neg g]
def aw_wl (W : Nat → Nat) : Option Nat → Int32
  | none => 1000000
  | some b => nI (W b)
theorem l_mnext (X : AMx) (R : Nat → Nat → Int32) (Z : Nat → Int32) (A : Nat → Nat → Int32) (Y : Nat → Int32) {n : Nat} (hn : n ≤ 8) (hY : Y 3 = nI n) {P : Nat → Bool} (hP : ∀ v, v < 19 → (P v = true ↔ am_fit (A 7) n (nI v - 9))) (b : Int32) {o : Option Nat} (ho : am_bst (fun k => decide (0 < aw_W P k)) (aw_W P) 19 = o) : ∀ d k g y5 y6, k + d = 19 → ∃ g', am_E X AM_X6_next 22 [some (.ref 88), some (.int b), some (.int (am_w5 (am_bst (fun k => decide (0 < aw_W P k)) (aw_W P) k))), some (.int (aw_wl (aw_W P) (am_bst (fun k => decide (0 < aw_W P k)) (aw_W P) k))), some (.int (nI k - 9)), y5, y6] [] (am_WH R Z (am_up A 10 g) Y) = some (some (.int (if am_w5 o < 0 then am_w5 o else if b = 0 then am_w5 o else aw_wl (aw_W P) o)), am_WH R Z (am_up A 10 g') Y) := by
  intro d
  induction d with
  | zero =>
    intro k g y5 y6 hk
    obtain rfl : k = 19 := by omega
    refine ⟨g, ?_⟩
    rw [ho, b_X6_next_22, if_pos (show (10 : Int32) ≤ nI 19 - 9 by decide), b_X6_next_193]
    by_cases g1 : am_w5 o < 0
    · rw [if_pos g1, if_pos g1, b_X6_next_201]
    · rw [if_neg g1, if_neg g1, b_X6_next_197]
      by_cases g2 : b = 0
      · rw [if_pos g2, if_pos g2, b_X6_next_201]
      · rw [if_neg g2, if_neg g2, b_X6_next_205]
  | succ d ih =>
    intro k g y5 y6 hk
    have hk19 : k < 19 := by omega
    rw [b_X6_next_22, if_neg ((by decide +kernel : ∀ k, k < 19 → ¬ (10 : Int32) ≤ nI k - 9) k hk19), b_X6_next_29]
    obtain ⟨g1, h1, e1⟩ := l_mnext1 X R Z A Y b (am_w5 (am_bst (fun k => decide (0 < aw_W P k)) (aw_W P) k)) (aw_wl (aw_W P) (am_bst (fun k => decide (0 < aw_W P k)) (aw_W P) k)) (nI k - 9) 0 3 0 g (by omega) (fun j hj => absurd hj (Nat.not_lt_zero j))
    rw [show nI 0 = (0 : Int32) from rfl] at e1
    rw [e1, b_X6_next_55]
    obtain ⟨g2, h2, e2⟩ := l_mnext2 X R Z A Y hn hY hP b (am_w5 (am_bst (fun k => decide (0 < aw_W P k)) (aw_W P) k)) (aw_wl (aw_W P) (am_bst (fun k => decide (0 < aw_W P k)) (aw_W P) k)) 0 hk19 19 0 g1 (by omega) (fun j hj => by rw [h1 j hj]; rfl)
    rw [show (-9 : Int32) = nI 0 - 9 by decide, e2, b_X6_next_101, l_mnext3 X R Z (am_up A 10 g2) Y (c := fun j => aw_cc P k j 19) (fun j hj => ⟨by have := aw_cc_le P k j 19; omega, by rw [am_up_s]; exact h2 j hj⟩), show aw_mx (fun j => aw_cc P k j 19) 3 = aw_W P k from rfl, b_X6_next_142]
    have bW := aw_W_le P k
    have no : ∀ l6, (am_bst (fun k => decide (0 < aw_W P k)) (aw_W P) (k + 1) = am_bst (fun k => decide (0 < aw_W P k)) (aw_W P) k) → ∃ g', am_E X AM_X6_next 157 [some (.ref 88), some (.int b), some (.int (am_w5 (am_bst (fun k => decide (0 < aw_W P k)) (aw_W P) k))), some (.int (aw_wl (aw_W P) (am_bst (fun k => decide (0 < aw_W P k)) (aw_W P) k))), some (.int (nI k - 9)), some (.int (nI (aw_W P k))), some (.int l6)] [] (am_WH R Z (am_up A 10 g2) Y) = some (some (.int (if am_w5 o < 0 then am_w5 o else if b = 0 then am_w5 o else aw_wl (aw_W P) o)), am_WH R Z (am_up A 10 g') Y) := by
      intro l6 hb
      rw [b_X6_next_157, if_pos rfl, b_X6_next_173, if_pos rfl, b_X6_next_185, am_ln_1 hk19, ← hb]
      exact ih (k + 1) g2 _ _ (by omega)
    have yes : ∀ l6, (am_bst (fun k => decide (0 < aw_W P k)) (aw_W P) (k + 1) = some k) → ∃ g', am_E X AM_X6_next 153 [some (.ref 88), some (.int b), some (.int (am_w5 (am_bst (fun k => decide (0 < aw_W P k)) (aw_W P) k))), some (.int (aw_wl (aw_W P) (am_bst (fun k => decide (0 < aw_W P k)) (aw_W P) k))), some (.int (nI k - 9)), some (.int (nI (aw_W P k))), some (.int l6)] [] (am_WH R Z (am_up A 10 g2) Y) = some (some (.int (if am_w5 o < 0 then am_w5 o else if b = 0 then am_w5 o else aw_wl (aw_W P) o)), am_WH R Z (am_up A 10 g') Y) := by
      intro l6 hb
      have ih' := fun y5 y6 => ih (k + 1) g2 y5 y6 (by omega)
      rw [hb] at ih'
      rw [b_X6_next_153, if_neg (by decide), b_X6_next_165, if_neg (by decide), b_X6_next_180, am_ln_1 hk19]
      exact ih' _ _
    by_cases w0 : 0 < aw_W P k
    · rw [if_neg (fun z => by have := (nI_leI (a := aw_W P k) (b := 0) (by omega) (by omega)).mp z; omega), b_X6_next_147]
      cases e : am_bst (fun k => decide (0 < aw_W P k)) (aw_W P) k with
      | none =>
        rw [e] at yes
        rw [if_neg (show ¬ aw_wl (aw_W P) none ≤ nI (aw_W P k) from nI_ge (a := aw_W P k) (b := 1000000) (by omega) (by omega))]
        exact yes _ (by rw [am_bst_n e, if_pos (decide_eq_true w0)])
      | some c =>
        have bc := aw_W_le P c
        by_cases g3 : aw_W P k < aw_W P c
        · rw [e] at yes
          rw [if_neg (show ¬ aw_wl (aw_W P) (some c) ≤ nI (aw_W P k) from nI_ge g3 (by omega))]
          exact yes _ (by rw [am_bst_s e, if_pos ⟨decide_eq_true w0, g3⟩])
        · have no' := no (nI 3) (by rw [am_bst_s e, if_neg (fun z => g3 z.2), e])
          rw [e] at no'
          rw [if_pos (show aw_wl (aw_W P) (some c) ≤ nI (aw_W P k) from nI_le (by omega) (by omega))]
          exact no'
    · rw [if_pos (show nI (aw_W P k) ≤ (0 : Int32) from (nI_leI (a := aw_W P k) (b := 0) (by omega) (by omega)).mpr (by omega))]
      refine no _ ?_
      cases e : am_bst (fun k => decide (0 < aw_W P k)) (aw_W P) k with
      | none => rw [am_bst_n e, if_neg (by simp [w0])]
      | some c => rw [am_bst_s e, if_neg (by simp [w0])]
theorem aw_bst1 (W : Nat → Nat) : ∀ d, ∃ B, am_bst (fun _ => true) W (1 + d) = some B
  | 0 => ⟨0, by rw [am_bst_n rfl]; rfl⟩
  | d + 1 => by
    obtain ⟨B, hB⟩ := aw_bst1 W d
    rw [← Nat.add_assoc, am_bst_s hB]
    split
    · exact ⟨_, rfl⟩
    · exact ⟨_, rfl⟩
theorem op_next (X : AMx) (b : Int32) : am_OP X 73 142 [.int b] := by
  intro R Z A Y hI
  have v5 : Z 5 = Y 3 ∧ am_rn (Z 5) 0 8 := hI.1 5
  have v6 : am_rn (Z 6) 0 524287 ∧ ∀ v, v < 19 → (bt (Z 6) v = true ↔ am_fit (A 7) (Z 5).toNatClampNeg (nI v - 9)) := hI.1 6
  obtain ⟨n, hn, en⟩ := am_rn_ix v5.2 (n := 9) (by omega) (by omega)
  have eY : Y 3 = nI n := v5.1.symm.trans en
  by_cases h1 : 0 ≤ b ∧ b ≤ 1
  · obtain ⟨g', hg⟩ := l_mnext X R Z A Y (n := n) (by omega) eY (P := bt (Z 6)) (fun v hv => by rw [v6.2 v hv, en, am_cl (by omega)]) b rfl 19 0 (A 10) none none (by omega)
    have eA : am_up A 10 (A 10) = A := by funext j; rw [am_ue]; split <;> simp_all
    rw [eA, show nI 0 - 9 = (-9 : Int32) by decide] at hg
    refine ⟨.int (if Z 6 = 0 then -6 else if b = 0 then am_w5 (am_bst (fun _ => true) (aw_W (bt (Z 6))) 19) else aw_wl (aw_W (bt (Z 6))) (am_bst (fun _ => true) (aw_W (bt (Z 6))) 19)), R, Z, am_up A 10 g', Y, ?_, ?_, ⟨hI.1, am_inh_PD hI.2.1 rfl rfl rfl rfl, am_IM_congr (fun _ _ _ => rfl) (fun _ _ _ => rfl) rfl rfl rfl hI.2.2⟩⟩
    · by_cases h0 : Z 6 = 0
      · simp only [d_X5_next, b_X5_next_0, b_X5_next_6, b_X5_next_9, b_X5_next_12, b_X5_next_22, b_X5_next_25, b_X5_next_38, b_X5_next_43, b_X5_next_48, b_X5_next_51, b_X5_next_53, b_X5_next_59, b_X5_next_63, b_X5_next_70, b_X5_next_75, s_isIn, am_C_v, am_C_0, am_ue, if_true, if_false, eq_self, am_10, ite_not, Nat.reduceEqDiff, reduceIte, am_bI_t h1, h0]
      · have e1 : am_bst (fun _ => true) (aw_W (bt (Z 6))) 1 = some 0 := by rw [am_bst_n rfl]; rfl
        obtain ⟨B, hB⟩ := aw_bst1 (aw_W (bt (Z 6))) 18
        have k := l_cnext X R Z A Y v6.1 b hB 18 1 0 (by omega) e1
        simp only [d_X5_next, b_X5_next_0, b_X5_next_6, b_X5_next_9, b_X5_next_12, b_X5_next_22, b_X5_next_25, b_X5_next_38, b_X5_next_43, b_X5_next_48, b_X5_next_51, b_X5_next_53, b_X5_next_59, b_X5_next_63, b_X5_next_70, b_X5_next_75, s_isIn, am_C_v, am_C_0, am_ue, if_true, if_false, eq_self, am_10, ite_not, Nat.reduceEqDiff, reduceIte, am_bI_t h1, h0]
        rw [show (-9 : Int32) = nI 0 - 9 by decide, show nI 0 - 9 + 1 = nI 1 - 9 by decide, hB]
        exact k
    · rw [d_X6_next, b_X6_next_0, s_in, am_C_v, am_bI_t h1, b_X6_next_6, if_neg (by decide), b_X6_next_12]
      refine hg.trans ?_
      congr 3
      by_cases h0 : Z 6 = 0
      · have all0 : ∀ v, v < 19 → bt (Z 6) v = false := fun v hv => by rw [h0]; exact b_0 v
        rw [if_pos h0, am_bst_none (fun j hj => by rw [aw_W_no j all0]; rfl)]
        rfl
      · rw [if_neg h0]
        obtain ⟨v, hv, hPv⟩ : ∃ v, v < 19 ∧ bt (Z 6) v = true := by
          refine Classical.byContradiction fun hx => h0 ?_
          apply b_ext
          intro i hi
          rw [b_0]
          rcases Nat.lt_or_ge i 19 with q | q
          · cases e : bt (Z 6) i
            · rfl
            · exact absurd ⟨i, q, e⟩ hx
          · exact am_rnb v6.1 (k := 19) (by omega) q
        rw [am_bst_cong (Q := fun _ => true) (fun j _ => decide_eq_true (aw_W_pos j hv hPv))]
        obtain ⟨B, e⟩ := aw_bst1 (aw_W (bt (Z 6))) 18
        rw [show am_bst (fun _ => true) (aw_W (bt (Z 6))) 19 = some B from e]
        have hB : B < 19 := (am_bst_le e).1
        rw [show am_w5 (some B) = nI B - 9 + 10 from rfl, if_neg ((by decide +kernel : ∀ k, k < 19 → ¬ nI k - 9 + 10 < (0 : Int32)) B hB)]
  · refine ⟨.int (-2), R, Z, A, Y, ?_, ?_, hI⟩
    · simp only [d_X5_next, b_X5_next_0, b_X5_next_6, b_X5_next_9, b_X5_next_12, b_X5_next_22, b_X5_next_25, b_X5_next_38, b_X5_next_43, b_X5_next_48, b_X5_next_51, b_X5_next_53, b_X5_next_59, b_X5_next_63, b_X5_next_70, b_X5_next_75, s_isIn, am_C_v, am_C_0, am_ue, if_true, if_false, eq_self, am_10, ite_not, Nat.reduceEqDiff, reduceIte, am_bI_f h1]
    · rw [d_X6_next, b_X6_next_0, s_in, am_C_v, am_bI_f h1, b_X6_next_6, if_pos rfl, b_X6_next_9]
