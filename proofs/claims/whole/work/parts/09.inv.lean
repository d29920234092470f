/-! What the class' cells and the reference's have to do with each other. -/
abbrev am_rn (x : Int32) (lo hi : Int) : Prop := lo ≤ x.toInt ∧ x.toInt ≤ hi
def am_how (v l : Int32) : Int32 := if v < l then 0 else if v = l then 1 else 2
def am_fit (sg : Nat → Int32) (n : Nat) (v : Int32) : Prop := ∀ i, i < n → am_how v (sg (2 * i)) = sg (2 * i + 1)
/-- a valley of the class (rows r, numbers z) and the reference's rows and numbers -/
def am_VR (r : Nat → Nat → Int32) (z : Nat → Int32) (bk dn kn fr to sl sg : Nat → Int32) (be th st si : Int32) : Nat → Prop
  | 0 => z 0 = be ∧ am_rn (z 0) 0 18
  | 1 => z 1 = th ∧ am_rn (z 1) 0 127
  | 2 => z 2 = bk 30 ∧ am_rn (z 2) 0 255
  | 3 => z 3 = st ∧ am_rn (z 3) 0 4095
  | 4 => z 4 = bk 31 ∧ am_rn (z 4) 0 99
  | 5 => z 5 = si ∧ am_rn (z 5) 0 8
  | 6 => am_rn (z 6) 0 524287 ∧ ∀ v, v < 19 → (bt (z 6) v = true ↔ am_fit sg (z 5).toNatClampNeg (nI v - 9))
  | 7 => ∀ i, i < 3 → r 0 i = dn i ∧ am_rn (r 0 i) (-9) 9
  | 8 => ∀ i, i < 7 → r 1 i = bk i ∧ am_rn (r 1 i) 0 2
  | 9 => ∀ i, i < 7 → r 2 i = bk (7 + i) ∧ am_rn (r 2 i) 0 9
  | 10 => ∀ i, i < 7 → r 3 i = kn i ∧ am_rn (r 3 i) 0 127
  | 11 => ∀ i, i < 8 → r 4 i = bk (14 + i) ∧ am_rn (r 4 i) (-9) 9
  | 12 => ∀ i, i < 8 → r 5 i = bk (22 + i) ∧ am_rn (r 5 i) 0 2
  | 13 => ∀ i, i < 12 → r 6 i = fr i ∧ am_rn (r 6 i) 0 9
  | 14 => ∀ i, i < 12 → r 7 i = to i ∧ am_rn (r 7 i) 0 9
  | 15 => ∀ i, i < 12 → r 8 i = sl i ∧ am_rn (r 8 i) (-9) 9
  | _ => True
/-- an image of both -/
def am_img (R : Nat → Nat → Int32) (Z : Nat → Int32) (A : Nat → Nat → Int32) (n : Nat) : Prop :=
  (A 13 n = 0 ∧ bt (Z 37) n = false) ∨ (A 13 n = 1 ∧ bt (Z 37) n = true ∧ ∀ i, am_VR (fun j => R (18 + 9 * n + j)) (fun j => Z (14 + 7 * n + j)) (fun k => A 12 (110 * n + k)) (fun k => A 12 (110 * n + 91 + k)) (fun k => A 12 (110 * n + 84 + k)) (fun k => A 12 (110 * n + 32 + k)) (fun k => A 12 (110 * n + 44 + k)) (fun k => A 12 (110 * n + 56 + k)) (fun k => A 12 (110 * n + 68 + k)) (A 12 (110 * n + 101)) (A 12 (110 * n + 100)) (A 12 (110 * n + 102)) (A 12 (110 * n + 103)) i)
/-- what is now, the pad, the images -/
def am_VN (R : Nat → Nat → Int32) (Z : Nat → Int32) (A : Nat → Nat → Int32) (Y : Nat → Int32) : Prop := ∀ i, am_VR (fun j => R j) (fun j => Z j) (A 0) (A 2) (A 3) (A 4) (A 5) (A 6) (A 7) (Y 1) (Y 0) (Y 2) (Y 3) i
def am_PD (R : Nat → Nat → Int32) (Z : Nat → Int32) (A : Nat → Nat → Int32) (Y : Nat → Int32) : Prop := Z 28 = Y 4 ∧ am_rn (Z 28) 0 60 ∧ ∀ i, i < 60 → R 36 i = A 8 i
def am_IM (R : Nat → Nat → Int32) (Z : Nat → Int32) (A : Nat → Nat → Int32) : Prop := am_rn (Z 37) 0 3 ∧ ∀ n, n < 2 → am_img R Z A n
def am_INV (R : Nat → Nat → Int32) (Z : Nat → Int32) (A : Nat → Nat → Int32) (Y : Nat → Int32) : Prop := am_VN R Z A Y ∧ am_PD R Z A Y ∧ am_IM R Z A
theorem am_VR_congr {r r' : Nat → Nat → Int32} {z z' : Nat → Int32} {bk dn kn fr to sl sg bk' dn' kn' fr' to' sl' sg' : Nat → Int32} {be th st si be' th' st' si' : Int32} (hr : ∀ j, j < 9 → r' j = r j) (hz : ∀ j, j < 7 → z' j = z j) (h1 : ∀ k, k < 32 → bk' k = bk k) (h2 : ∀ k, k < 3 → dn' k = dn k) (h3 : ∀ k, k < 7 → kn' k = kn k) (h4 : ∀ k, k < 12 → fr' k = fr k) (h5 : ∀ k, k < 12 → to' k = to k) (h6 : ∀ k, k < 12 → sl' k = sl k) (h7 : ∀ k, k < 16 → sg' k = sg k) (e1 : be' = be) (e2 : th' = th) (e3 : st' = st) (e4 : si' = si) (h : ∀ i, am_VR r z bk dn kn fr to sl sg be th st si i) : ∀ i, am_VR r' z' bk' dn' kn' fr' to' sl' sg' be' th' st' si' i := by
  subst e1; subst e2; subst e3; subst e4
  intro i
  match i with
  | 0 => show z' 0 = _ ∧ am_rn (z' 0) 0 18; rw [hz 0 (by omega)]; exact h 0
  | 1 => show z' 1 = _ ∧ am_rn (z' 1) 0 127; rw [hz 1 (by omega)]; exact h 1
  | 2 => show z' 2 = bk' 30 ∧ am_rn (z' 2) 0 255; rw [hz 2 (by omega), h1 30 (by omega)]; exact h 2
  | 3 => show z' 3 = _ ∧ am_rn (z' 3) 0 4095; rw [hz 3 (by omega)]; exact h 3
  | 4 => show z' 4 = bk' 31 ∧ am_rn (z' 4) 0 99; rw [hz 4 (by omega), h1 31 (by omega)]; exact h 4
  | 5 => show z' 5 = _ ∧ am_rn (z' 5) 0 8; rw [hz 5 (by omega)]; exact h 5
  | 6 =>
    show am_rn (z' 6) 0 524287 ∧ ∀ v, v < 19 → (bt (z' 6) v = true ↔ am_fit sg' (z' 5).toNatClampNeg (nI v - 9))
    rw [hz 6 (by omega), hz 5 (by omega)]
    refine ⟨(h 6).1, fun v hv => ((h 6).2 v hv).trans ?_⟩
    have hn : (z 5).toNatClampNeg ≤ 8 := by
      have := (h 5).2.2
      have e : (z 5).toNatClampNeg = (z 5).toInt.toNat := rfl
      omega
    unfold am_fit
    constructor
    · intro g i hi; rw [h7 _ (by omega), h7 _ (by omega)]; exact g i hi
    · intro g i hi; rw [← h7 (2 * i) (by omega), ← h7 (2 * i + 1) (by omega)]; exact g i hi
  | 7 => intro i hi; show r' 0 i = dn' i ∧ am_rn (r' 0 i) (-9) 9; rw [hr 0 (by omega), h2 i hi]; exact h 7 i hi
  | 8 => intro i hi; show r' 1 i = bk' i ∧ am_rn (r' 1 i) 0 2; rw [hr 1 (by omega), h1 i (by omega)]; exact h 8 i hi
  | 9 => intro i hi; show r' 2 i = bk' (7 + i) ∧ am_rn (r' 2 i) 0 9; rw [hr 2 (by omega), h1 (7 + i) (by omega)]; exact h 9 i hi
  | 10 => intro i hi; show r' 3 i = kn' i ∧ am_rn (r' 3 i) 0 127; rw [hr 3 (by omega), h3 i hi]; exact h 10 i hi
  | 11 => intro i hi; show r' 4 i = bk' (14 + i) ∧ am_rn (r' 4 i) (-9) 9; rw [hr 4 (by omega), h1 (14 + i) (by omega)]; exact h 11 i hi
  | 12 => intro i hi; show r' 5 i = bk' (22 + i) ∧ am_rn (r' 5 i) 0 2; rw [hr 5 (by omega), h1 (22 + i) (by omega)]; exact h 12 i hi
  | 13 => intro i hi; show r' 6 i = fr' i ∧ am_rn (r' 6 i) 0 9; rw [hr 6 (by omega), h4 i hi]; exact h 13 i hi
  | 14 => intro i hi; show r' 7 i = to' i ∧ am_rn (r' 7 i) 0 9; rw [hr 7 (by omega), h5 i hi]; exact h 14 i hi
  | 15 => intro i hi; show r' 8 i = sl' i ∧ am_rn (r' 8 i) (-9) 9; rw [hr 8 (by omega), h6 i hi]; exact h 15 i hi
  | _ + 16 => trivial
theorem am_img_congr {R R' : Nat → Nat → Int32} {Z Z' : Nat → Int32} {A A' : Nat → Nat → Int32} {n : Nat} (hn : n < 2) (hR : ∀ k, 18 ≤ k → k < 36 → R' k = R k) (hZ : ∀ k, 14 ≤ k → k < 28 → Z' k = Z k) (h37 : Z' 37 = Z 37) (h12 : A' 12 = A 12) (h13 : A' 13 = A 13) (h : am_img R Z A n) : am_img R' Z' A' n := by
  unfold am_img at h ⊢
  rw [h37, h12, h13]
  rcases h with h | ⟨h1, h2, h⟩
  · exact Or.inl h
  · exact Or.inr ⟨h1, h2, am_VR_congr (fun j hj => hR _ (by omega) (by omega)) (fun j hj => hZ _ (by omega) (by omega)) (fun _ _ => rfl) (fun _ _ => rfl) (fun _ _ => rfl) (fun _ _ => rfl) (fun _ _ => rfl) (fun _ _ => rfl) (fun _ _ => rfl) rfl rfl rfl rfl h⟩
theorem am_IM_congr {R R' : Nat → Nat → Int32} {Z Z' : Nat → Int32} {A A' : Nat → Nat → Int32} (hR : ∀ k, 18 ≤ k → k < 36 → R' k = R k) (hZ : ∀ k, 14 ≤ k → k < 28 → Z' k = Z k) (h37 : Z' 37 = Z 37) (h12 : A' 12 = A 12) (h13 : A' 13 = A 13) (h : am_IM R Z A) : am_IM R' Z' A' := ⟨by rw [h37]; exact h.1, fun n hn => am_img_congr hn hR hZ h37 h12 h13 (h.2 n hn)⟩
theorem am_up_s {α : Type} (f : Nat → α) (k : Nat) (x : α) : am_up f k x k = x := by unfold am_up; rw [show Nat.beq k k = true from Nat.beq_refl k]; rfl
theorem am_up_n {α : Type} (f : Nat → α) {k j : Nat} (x : α) (h : j ≠ k) : am_up f k x j = f j := by unfold am_up; rw [am_bne h]; rfl
/-- an update outside the images -/
theorem am_up_im {α : Type} {f : Nat → α} {k : Nat} {x : α} (lo hi : Nat) (h : k < lo ∨ hi ≤ k) : ∀ j, lo ≤ j → j < hi → am_up f k x j = f j := fun j h1 h2 => am_up_n f x (by omega)
/-! indices -/
theorem am_ix {a m : Int32} {n : Nat} (h : 0 ≤ a ∧ a ≤ m) (hm : m.toInt < n) (hn : n < 2 ^ 31) : ∃ i, i < n ∧ a = nI i := by
  obtain ⟨i, hi, rfl⟩ := nI_of (Int32.not_lt.mpr h.1)
  refine ⟨i, ?_, rfl⟩
  have h2 := Int32.le_iff_toInt_le.mp h.2
  rw [nI_toInt hi] at h2
  omega
theorem am_in_nI {i n : Nat} (h : i < n) (hn : n < 2 ^ 31) : am_in (nI i) n := ⟨by rw [nI_toInt (by omega)]; omega, by rw [nI_toInt (by omega)]; omega⟩
theorem am_rg_nI {n i : Nat} {f : Nat → Int32} (h : i < n) (hn : n < 2 ^ 31) : am_rg n f (nI i) = f i := by
  rw [am_rg_of (nI_pos (by omega)) (nI_ge h hn), nI_clamp (by omega)]
theorem am_rs_nI {n i : Nat} {f : Nat → Int32} {x : Int32} (h : i < n) (hn : n < 2 ^ 31) : am_rs n f (nI i) x = upd f i x := by
  rw [am_rs_of (nI_pos (by omega)) (nI_ge h hn), nI_clamp (by omega)]
theorem am_cl {i : Nat} (h : i < 2 ^ 31) : (nI i).toNatClampNeg = i := nI_clamp h
theorem upd_s (f : Nat → Int32) (k : Nat) (x : Int32) : upd f k x k = x := pk_us
theorem upd_n (f : Nat → Int32) {k j : Nat} (x : Int32) (h : j ≠ k) : upd f k x j = f j := pk_un h
theorem am_rn_le {a lo hi : Int32} (h : lo ≤ a ∧ a ≤ hi) : am_rn a lo.toInt hi.toInt := ⟨Int32.le_iff_toInt_le.mp h.1, Int32.le_iff_toInt_le.mp h.2⟩
/-- a number within 0 .. n - 1 is an index -/
theorem am_rn_ix {a : Int32} {m : Int} {n : Nat} (h : am_rn a 0 m) (hm : m < n) (hn : n < 2 ^ 31) : ∃ i, i < n ∧ a = nI i := by
  obtain ⟨i, hi, rfl⟩ := nI_of (x := a) (by rw [Int32.lt_iff_toInt_lt, Int32.toInt_zero]; omega)
  refine ⟨i, ?_, rfl⟩
  have h2 := h.2
  rw [nI_toInt hi] at h2
  omega
theorem am_a7 {i : Nat} : ((7 : Int32) + nI i) = nI (7 + i) := nI_add 7 i
theorem am_a14 {i : Nat} : ((14 : Int32) + nI i) = nI (14 + i) := nI_add 14 i
theorem am_a22 {i : Nat} : ((22 : Int32) + nI i) = nI (22 + i) := nI_add 22 i
theorem am_a0 {i : Nat} : ((0 : Int32) + nI i) = nI (0 + i) := nI_add 0 i
theorem am_a2 {i : Nat} : ((2 : Int32) + nI i) = nI (2 + i) := nI_add 2 i
theorem am_a1 {i : Nat} : ((1 : Int32) + nI i) = nI (1 + i) := nI_add 1 i
theorem am_a3 {i : Nat} : ((3 : Int32) + nI i) = nI (3 + i) := nI_add 3 i
theorem am_a4 {i : Nat} : ((4 : Int32) + nI i) = nI (4 + i) := nI_add 4 i
theorem am_a6 {i : Nat} : ((6 : Int32) + nI i) = nI (6 + i) := nI_add 6 i
theorem am_a8 {i : Nat} : ((8 : Int32) + nI i) = nI (8 + i) := nI_add 8 i
theorem am_a9 {i : Nat} : ((9 : Int32) + nI i) = nI (9 + i) := nI_add 9 i
theorem am_a10 {i : Nat} : ((10 : Int32) + nI i) = nI (10 + i) := nI_add 10 i
theorem am_a12 {i : Nat} : ((12 : Int32) + nI i) = nI (12 + i) := nI_add 12 i
/-! the tests of who is there, which stand -/
theorem am_hs_bt {b : Int32} {m : Int} {k : Nat} (hb : am_rn b 0 m) (hm : m < 2 ^ k) (hk : k ≤ 31) (i : Int32) : am_hs b i ↔ ∃ j, j < k ∧ i = nI j ∧ bt b j = true := by
  constructor
  · intro h
    obtain ⟨h0, h1, h2⟩ := h
    obtain ⟨j, hj, rfl⟩ := nI_of (Int32.not_lt.mpr h0)
    have h3 : j < 32 := by
      have h4 := Int32.not_le.mp h1
      rw [Int32.lt_iff_toInt_lt, nI_toInt hj] at h4
      have : (32 : Int32).toInt = 32 := rfl
      omega
    rw [b_one j h3] at h2
    refine ⟨j, ?_, rfl, h2⟩
    rcases Nat.lt_or_ge j k with h5 | h5
    · exact h5
    · rw [b_small hb.1 (by omega) h5] at h2
      cases h2
  · intro h
    obtain ⟨j, hj, rfl, h2⟩ := h
    refine ⟨nI_pos' (by omega), ?_, (b_one j (by omega) b).mpr h2⟩
    exact nI_ge (a := j) (b := 32) (by omega) (by omega)
/-- the reference's test of the same -/
theorem am_mh_bt {b : Int32} {k : Nat} (hk : k ≤ 31) {m : Int32} (hm : m.toInt + 1 = k) (i : Int32) : ((0 ≤ i ∧ i ≤ m) ∧ (b >>> (i &&& 31)) &&& 1 = 1) ↔ ∃ j, j < k ∧ i = nI j ∧ bt b j = true := by
  constructor
  · intro h
    obtain ⟨h0, h2⟩ := h
    obtain ⟨j, hj, rfl⟩ := am_ix h0 (n := k) (by omega) (by omega)
    rw [b_one j (by omega)] at h2
    exact ⟨j, hj, rfl, h2⟩
  · intro h
    obtain ⟨j, hj, rfl, h2⟩ := h
    refine ⟨⟨nI_pos' (by omega), ?_⟩, (b_one j (by omega) b).mpr h2⟩
    rw [Int32.le_iff_toInt_le, nI_toInt (by omega)]
    omega
