/-! Integer.bitCount counts bits; the reference's bits, too. -/
theorem nx_and (a b : Nat) : nI a &&& nI b = nI (a &&& b) := by
  apply Int32.toBitVec_inj.1
  show BitVec.ofNat 32 a &&& BitVec.ofNat 32 b = BitVec.ofNat 32 (a &&& b)
  apply BitVec.eq_of_getLsbD_eq
  intro i hi
  simp [hi]
theorem am_land (x y m k : Nat) (hx : x < 256) (hm : m < 256) : (x + 256 * y) &&& (m + 256 * k) = (x &&& m) + 256 * (y &&& k) := by
  apply Nat.eq_of_testBit_eq
  intro i
  have e1 : ∀ u v : Nat, u < 256 → (u + 256 * v).testBit i = if i < 8 then u.testBit i else v.testBit (i - 8) := by
    intro u v hu
    rw [Nat.add_comm]
    exact Nat.testBit_two_pow_mul_add (i := 8) v hu i
  have hxm : x &&& m < 256 := Nat.lt_of_le_of_lt Nat.and_le_left hx
  rw [Nat.testBit_and, e1 x y hx, e1 m k hm, e1 _ _ hxm]
  by_cases h : i < 8
  · simp only [h, if_true, Nat.testBit_and]
  · simp only [h, if_false, Nat.testBit_and]
theorem am_land3 (x y z m : Nat) (hx : x < 256) (hy : y < 256) (hm : m < 256) : (x + 256 * (y + 256 * z)) &&& (m + 256 * (m + 256 * (m + 256 * m))) = (x &&& m) + 256 * ((y &&& m) + 256 * (z &&& (m + 256 * m))) := by
  rw [am_land _ _ _ _ hx hm, am_land _ _ _ _ hy hm]
def am_f1 (a : Nat) : Nat := a - ((a / 2) &&& 0x55)
def am_f2 (d : Nat) : Nat := (d &&& 0x33) + ((d / 4) &&& 0x33)
def am_f3 (d : Nat) : Nat := (d + d / 16) &&& 0x0f
theorem am_d1 : ∀ a, a < 256 → ∀ b, b < 2 → ((a / 2 + b * 128) &&& 0x55) = (a / 2) &&& 0x55 := by decide +kernel
theorem am_d2 : ∀ a, a < 256 → ∀ b, b < 4 → ((a / 4 + b * 64) &&& 0x33) = (a / 4) &&& 0x33 := by decide +kernel
theorem am_d0 : ∀ a, a < 256 → am_f1 a < 256 ∧ ((a / 2) &&& 0x55) ≤ a ∧ am_f2 (am_f1 a) ≤ 0x44 ∧ am_f2 (am_f1 a) % 16 ≤ 4 ∧ am_f3 (am_f2 (am_f1 a)) = fb_ct (fun i => a.testBit i) 8 := by decide +kernel
theorem am_d3 : ∀ a, a < 0x45 → ∀ b, b < 5 → ((a + a / 16 + b * 16) &&& 0x0f) = am_f3 a := by decide +kernel
theorem am_dm : ∀ c, c < 256 → (c &&& (0x55 + 256 * 0x55)) = (c &&& 0x55) ∧ (c &&& (0x33 + 256 * 0x33)) = (c &&& 0x33) ∧ (c &&& (0x0f + 256 * 0x0f)) = (c &&& 0x0f) := by decide +kernel
def am_bcN (n : Nat) : Nat :=
  let i1 := n - ((n / 2) &&& 1431655765)
  let i2 := (i1 &&& 858993459) + ((i1 / 4) &&& 858993459)
  let i3 := (i2 + i2 / 16) &&& 252645135
  let i4 := i3 + i3 / 256
  let i5 := i4 + i4 / 65536
  i5 &&& 63
theorem am_bcN_ct {a b c : Nat} (ha : a < 256) (hb : b < 256) (hc : c < 256) : am_bcN (a + 256 * (b + 256 * c)) = fb_ct (fun i => a.testBit i) 8 + fb_ct (fun i => b.testBit i) 8 + fb_ct (fun i => c.testBit i) 8 := by
  have e5 : (1431655765 : Nat) = 0x55 + 256 * (0x55 + 256 * (0x55 + 256 * 0x55)) := rfl
  have e3 : (858993459 : Nat) = 0x33 + 256 * (0x33 + 256 * (0x33 + 256 * 0x33)) := rfl
  have e0 : (252645135 : Nat) = 0x0f + 256 * (0x0f + 256 * (0x0f + 256 * 0x0f)) := rfl
  obtain ⟨a1, a2, a3, a4, a5⟩ := am_d0 a ha
  obtain ⟨b1, b2, b3, b4, b5⟩ := am_d0 b hb
  obtain ⟨c1, c2, c3, c4, c5⟩ := am_d0 c hc
  unfold am_bcN
  have s1 : (a + 256 * (b + 256 * c)) - (((a + 256 * (b + 256 * c)) / 2) &&& 1431655765) = am_f1 a + 256 * (am_f1 b + 256 * am_f1 c) := by
    have h2 : (a + 256 * (b + 256 * c)) / 2 = (a / 2 + (b % 2) * 128) + 256 * ((b / 2 + (c % 2) * 128) + 256 * (c / 2)) := by omega
    rw [h2, e5, am_land3 _ _ _ _ (by omega) (by omega) (by omega), am_d1 a ha _ (by omega), am_d1 b hb _ (by omega), (am_dm (c / 2) (by omega)).1]
    unfold am_f1
    omega
  have s2 : ∀ x y z : Nat, x < 256 → y < 256 → z < 256 → (((x + 256 * (y + 256 * z)) &&& 858993459) + (((x + 256 * (y + 256 * z)) / 4) &&& 858993459)) = am_f2 x + 256 * (am_f2 y + 256 * am_f2 z) := by
    intro x y z hx hy hz
    have h2 : (x + 256 * (y + 256 * z)) / 4 = (x / 4 + (y % 4) * 64) + 256 * ((y / 4 + (z % 4) * 64) + 256 * (z / 4)) := by omega
    rw [h2, e3, am_land3 _ _ _ _ hx hy (by omega), am_land3 _ _ _ _ (by omega) (by omega) (by omega), am_d2 x hx _ (by omega), am_d2 y hy _ (by omega), (am_dm (z / 4) (by omega)).2.1, (am_dm z hz).2.1]
    unfold am_f2
    omega
  have s3 : ∀ x y z : Nat, x ≤ 0x44 → y ≤ 0x44 → z ≤ 0x44 → y % 16 ≤ 4 → z % 16 ≤ 4 → (((x + 256 * (y + 256 * z)) + (x + 256 * (y + 256 * z)) / 16) &&& 252645135) = am_f3 x + 256 * (am_f3 y + 256 * am_f3 z) := by
    intro x y z hx hy hz hy4 hz4
    have h2 : (x + 256 * (y + 256 * z)) + (x + 256 * (y + 256 * z)) / 16 = (x + x / 16 + (y % 16) * 16) + 256 * ((y + y / 16 + (z % 16) * 16) + 256 * (z + z / 16)) := by omega
    rw [h2, e0, am_land3 _ _ _ _ (by omega) (by omega) (by omega), am_d3 x (by omega) _ (by omega), am_d3 y (by omega) _ (by omega), (am_dm (z + z / 16) (by omega)).2.2]
    rfl
  dsimp only
  rw [s1, s2 _ _ _ a1 b1 c1, s3 _ _ _ a3 b3 c3 b4 c4, a5, b5, c5]
  have u1 := fb_ct_le (fun i => a.testBit i) 8
  have u2 := fb_ct_le (fun i => b.testBit i) 8
  have u3 := fb_ct_le (fun i => c.testBit i) 8
  generalize fb_ct (fun i => a.testBit i) 8 = p at *
  generalize fb_ct (fun i => b.testBit i) 8 = q at *
  generalize fb_ct (fun i => c.testBit i) 8 = r at *
  clear s1 s2 s3 a1 a2 a3 a4 a5 b1 b2 b3 b4 b5 c1 c2 c3 c4 c5 e5 e3 e0
  rw [show (63 : Nat) = 2 ^ 6 - 1 from rfl, Nat.and_two_pow_sub_one_eq_mod]
  have w1 : (p + 256 * (q + 256 * r)) / 256 = q + 256 * r := by omega
  rw [w1]
  have w2 : (p + 256 * (q + 256 * r) + (q + 256 * r)) / 65536 = r := by omega
  rw [w2]
  omega
theorem bt_nI {n i : Nat} (hi : i < 32) : bt (nI n) i = n.testBit i := by
  unfold bt
  show (BitVec.ofNat 32 n).getLsbD i = _
  rw [BitVec.getLsbD_ofNat]
  simp [hi]
theorem am_ct24 {n : Nat} (hn : n < 16777216) : am_bcN n = fb_ct (bt (nI n)) 24 := by
  have e : n = n % 256 + 256 * (n / 256 % 256 + 256 * (n / 65536)) := by omega
  have ha : n % 256 < 256 := by omega
  have hb : n / 256 % 256 < 256 := by omega
  have hc : n / 65536 < 256 := by omega
  have h1 : am_bcN n = _ := (congrArg am_bcN e).trans (am_bcN_ct ha hb hc)
  rw [h1]
  have t1 : ∀ i, i < 8 → n.testBit i = (n % 256).testBit i := fun i hi => by rw [show (256 : Nat) = 2 ^ 8 from rfl, Nat.testBit_mod_two_pow]; simp [hi]
  have t2 : ∀ i, i < 8 → n.testBit (8 + i) = (n / 256 % 256).testBit i := fun i hi => by rw [show (256 : Nat) = 2 ^ 8 from rfl, Nat.testBit_mod_two_pow, Nat.testBit_div_two_pow]; simp [hi, Nat.add_comm]
  have t3 : ∀ i, i < 8 → n.testBit (16 + i) = (n / 65536).testBit i := fun i hi => by rw [show (65536 : Nat) = 2 ^ 16 from rfl, Nat.testBit_div_two_pow]; rw [Nat.add_comm]
  have c1 : fb_ct (fun i => (n % 256).testBit i) 8 = fb_ct (bt (nI n)) 8 := fb_ct_cong (fun i hi => by rw [bt_nI (by omega), t1 i hi])
  have c2 : fb_ct (fun i => (n / 256 % 256).testBit i) 8 = fb_ct (fun i => bt (nI n) (8 + i)) 8 := fb_ct_cong (fun i hi => by rw [bt_nI (by omega), t2 i hi])
  have c3 : fb_ct (fun i => (n / 65536).testBit i) 8 = fb_ct (fun i => bt (nI n) (16 + i)) 8 := fb_ct_cong (fun i hi => by rw [bt_nI (by omega), t3 i hi])
  rw [c1, c2, c3, show (24 : Nat) = 16 + 8 from rfl, fb_ct_split, show (16 : Nat) = 8 + 8 from rfl, fb_ct_split]
theorem am_us (k : Nat) (hk : k < 32) {n : Nat} (hn : n < 2 ^ 32) : ((nI n).toUInt32 >>> ((nI k).toUInt32 &&& Int32.toUInt32 31)).toInt32 = nI (n / 2 ^ k) := pk_ushrN hn (nI k) k ((by decide +kernel : ∀ k, k < 32 → (((nI k).toUInt32 &&& Int32.toUInt32 31).toBitVec % 32).toNat = k) k hk)
theorem s_bitCount (X : AMx) (h : List AMc) {x : Int32} (hx : am_rn x 0 16777215) : am_D X 154 [.int x] h = some (some (.int (nI (fb_ct (bt x) 24))), h) := by
  obtain ⟨n, hn, rfl⟩ := am_rn_ix hx (n := 16777216) (by omega) (by omega)
  rw [← am_ct24 hn]
  simp only [d_J6_bitCount_0f7a4, b_J6_bitCount_0f7a4_0]
  have l1 : (1 : Int32) = nI 1 := rfl
  have l2 : (2 : Int32) = nI 2 := rfl
  have l4 : (4 : Int32) = nI 4 := rfl
  have l8 : (8 : Int32) = nI 8 := rfl
  have l16 : (16 : Int32) = nI 16 := rfl
  have l63 : (63 : Int32) = nI 63 := rfl
  have m5 : (1431655765 : Int32) = nI 1431655765 := rfl
  have m3 : (858993459 : Int32) = nI 858993459 := rfl
  have m0 : (252645135 : Int32) = nI 252645135 := rfl
  rw [l1, l2, l4, l8, l16, l63, m5, m3, m0]
  have b1 : ((n / 2 ^ 1) &&& 1431655765) ≤ n := Nat.le_trans Nat.and_le_left (by omega)
  rw [am_us 1 (by omega) (n := n) (by omega), nx_and, pk_sub b1]
  have b2 : n - ((n / 2 ^ 1) &&& 1431655765) < 16777216 := by omega
  unfold am_bcN
  dsimp only
  rw [show n / 2 ^ 1 = n / 2 from rfl] at b2 ⊢
  generalize n - ((n / 2) &&& 1431655765) = i1 at b2 ⊢
  rw [am_us 2 (by omega) (n := i1) (by omega), nx_and, nx_and, nI_add]
  rw [show i1 / 2 ^ 2 = i1 / 4 from rfl]
  have b3 : (i1 &&& 858993459) + ((i1 / 4) &&& 858993459) < 2 * 16777216 := by
    have := Nat.and_le_left (n := i1) (m := 858993459)
    have := Nat.and_le_left (n := i1 / 4) (m := 858993459)
    omega
  generalize (i1 &&& 858993459) + ((i1 / 4) &&& 858993459) = i2 at b3 ⊢
  rw [am_us 4 (by omega) (n := i2) (by omega), nI_add, nx_and]
  rw [show i2 / 2 ^ 4 = i2 / 16 from rfl]
  have b4 : (i2 + i2 / 16) &&& 252645135 < 4 * 16777216 := by
    have := Nat.and_le_left (n := i2 + i2 / 16) (m := 252645135)
    omega
  generalize (i2 + i2 / 16) &&& 252645135 = i3 at b4 ⊢
  rw [am_us 8 (by omega) (n := i3) (by omega), nI_add]
  rw [show i3 / 2 ^ 8 = i3 / 256 from rfl]
  have b5 : i3 + i3 / 256 < 8 * 16777216 := by omega
  generalize i3 + i3 / 256 = i4 at b5 ⊢
  rw [am_us 16 (by omega) (n := i4) (by omega), nI_add, nx_and]
/-- a count of bits that are far down -/
theorem am_ct_small {x : Int32} {k n : Nat} (hx : am_rn x 0 (2 ^ k - 1)) (hk : k ≤ n) : fb_ct (bt x) n = fb_ct (bt x) k := by
  obtain ⟨d, rfl⟩ := Nat.exists_eq_add_of_le hk
  rw [fb_ct_split]
  have : fb_ct (fun i => bt x (k + i)) d = 0 := fb_ct_zero.mpr (fun i _ => b_small (k := k) hx.1 (by have := hx.2; omega) (by omega))
  omega
theorem b_one_if (k : Nat) (hk : k < 32) (x : Int32) : ((x >>> (nI k &&& 31)) &&& 1) = if bt x k then 1 else 0 := by
  rw [b_and1, b_sshr k hk x (by omega : 0 < 32)]
  simp only [Nat.add_zero, hk, if_true]
/-- the reference's bits -/
theorem s_bits (X : AMx) (h : List AMc) (x : Int32) : am_D X 100 [.int x] h = some (some (.int (nI (fb_ct (bt x) 12))), h) := by
  have key : ∀ d k, k + d = 12 → am_E X AM_X6_bits 4 [some (.int x), some (.int (nI (fb_ct (bt x) k))), some (.int (nI k))] [] h = some (some (.int (nI (fb_ct (bt x) 12))), h) := by
    intro d
    induction d with
    | zero =>
      intro k hk
      obtain rfl : k = 12 := by omega
      rw [b_X6_bits_4, if_pos (show (12 : Int32) ≤ nI 12 from Int32.le_refl _), b_X6_bits_24]
    | succ d ih =>
      intro k hk
      rw [b_X6_bits_4, if_neg (show ¬ (12 : Int32) ≤ nI k from nI_ge (a := k) (b := 12) (by omega) (by omega)), b_X6_bits_10, b_one_if k (by omega), nI_1]
      have e : nI (fb_ct (bt x) k) + (if bt x k = true then (1 : Int32) else 0) = nI (fb_ct (bt x) (k + 1)) := by
        rw [fb_ct_succ]
        cases bt x k
        · show nI _ + nI 0 = _; rw [nI_add]; rfl
        · show nI _ + nI 1 = _; rw [nI_add]; rfl
      rw [e]
      exact ih (k + 1) (by omega)
  rw [d_X6_bits, b_X6_bits_0]
  exact key 12 0 (by omega)
