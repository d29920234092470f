/-! the law, a case a call. -/
theorem am_run_ret (X : AMx) : ∀ (n : Nat) (M : AMinfo) (pc : Nat) (L : AMl) (S : List Value) (h : List AMc) (r : Option Value × List AMc), am_run X n M pc L S h = some r → ∃ pc2 S2, am_ret M pc2 S2 = some r.1 := by
  intro n
  induction n with
  | zero => intro M pc L S h r hr; simp [am_run] at hr
  | succ n ih =>
    intro M pc L S h r hr
    rw [am_run] at hr
    cases h1 : am_stp X M pc L S h with
    | some st => simp only [h1] at hr; exact ih _ _ _ _ _ _ hr
    | none =>
      simp only [h1] at hr
      cases h2 : am_ret M pc S with
      | some v => simp only [h2] at hr; cases hr; exact ⟨pc, S, h2⟩
      | none =>
        simp only [h2] at hr
        cases h3 : am_cal M pc S h with
        | none => simp only [h3] at hr; cases hr
        | some q =>
          simp only [h3] at hr
          cases h4 : am_run X n (am_mg q.1) 0 (am_ent (am_mg q.1) q.2.1) [] h with
          | none => simp only [h4] at hr; cases hr
          | some w =>
            simp only [h4] at hr
            cases h5 : am_bk (am_mg q.1) L q.2.2 h w.2 with
            | false => simp only [h5, cond_false] at hr; cases hr
            | true => simp only [h5, cond_true] at hr; exact ih _ _ _ _ _ _ hr
theorem am_D_ty (X : AMx) {k : Nat} {as : List Value} {h h' : List AMc} {v : Option Value} (hr : am_D X k as h = some (v, h')) : ∃ pc2 S2, am_ret (am_mg k) pc2 S2 = some v := by
  obtain ⟨n, hn⟩ := am_E_iff.mp hr
  exact am_run_ret X n _ _ _ _ _ _ hn
theorem am_D_int (X : AMx) {k : Nat} {as : List Value} {h h' : List AMc} {v : Value} (hM : am_mg k ∈ am_mt) (ht : am_rt (am_mg k) = some .int) (hr : am_D X k as h = some (some v, h')) : ∃ x, v = .int x := by
  obtain ⟨pc2, S2, h2⟩ := am_D_ty X hr
  rcases am_ret_row h2 hM with ⟨x, _, h, hv, _⟩ | ⟨x, _, h, _, hv, _⟩ | ⟨x, _, h, hv, _⟩ | ⟨x, C, _, h, hv, _⟩ | ⟨_, h, hv, _⟩
  · exact ⟨x, Option.some.inj hv⟩
  · rw [ht] at h; cases h
  · rw [ht] at h; cases h
  · rw [ht] at h; cases h
  · rw [ht] at h; cases h
theorem am_D_long (X : AMx) {k : Nat} {as : List Value} {h h' : List AMc} {v : Value} (hM : am_mg k ∈ am_mt) (ht : am_rt (am_mg k) = some .long) (hr : am_D X k as h = some (some v, h')) : ∃ x, v = .long x := by
  obtain ⟨pc2, S2, h2⟩ := am_D_ty X hr
  rcases am_ret_row h2 hM with ⟨x, _, h, hv, _⟩ | ⟨x, _, h, _, hv, _⟩ | ⟨x, _, h, hv, _⟩ | ⟨x, C, _, h, hv, _⟩ | ⟨_, h, hv, _⟩
  · rw [ht] at h; cases h
  · rw [ht] at h; cases h
  · exact ⟨x, Option.some.inj hv⟩
  · rw [ht] at h; cases h
  · rw [ht] at h; cases h
/-- a case of the law: it goes on, with what belongs together -/
def am_LG (X : AMx) (pc i : Nat) : Prop := ∀ (R : Nat → Nat → Int32) (Z : Nat → Int32) (A : Nat → Nat → Int32) (Y : Nat → Int32), am_INV R Z A Y → ∃ (R' : Nat → Nat → Int32) (Z' : Nat → Int32) (A' : Nat → Nat → Int32) (Y' : Nat → Int32), am_INV R' Z' A' Y' ∧ am_E X AM_L_law pc [some (.ref 1000000), some (.ref 0), some (.ref 88), some (.int (nI i))] [] (am_WH R Z A Y) = am_E X AM_L_law 1154 [some (.ref 1000000), some (.ref 0), some (.ref 88), some (.int (nI i))] [] (am_WH R' Z' A' Y')
theorem lg_172 (X : AMx) {i : Nat} (hi : i + 7 ≤ X.1) (hL : X.1 ≤ 3584) : am_LG X 172 i := by
  intro R Z A Y hI
  have g1 : am_in (nI i + 1) X.1 := by rw [show (1 : Int32) = nI 1 from rfl, nI_add]; exact am_in_nI (by omega) (by omega)
  have g2 : am_in (nI i + 2) X.1 := by rw [show (2 : Int32) = nI 2 from rfl, nI_add]; exact am_in_nI (by omega) (by omega)
  obtain ⟨v, R1, Z1, A1, Y1, h1, h2, hI1⟩ := op_creed X (X.2 (nI i + 1).toNatClampNeg) (X.2 (nI i + 2).toNatClampNeg) R Z A Y hI
  obtain ⟨x, rfl⟩ := am_D_int X (k := 50) (List.mem_of_getElem? (i := 50) rfl) rfl h1
  refine ⟨R1, Z1, A1, Y1, hI1, ?_⟩
  rw [b_L_law_172, if_pos g1, b_L_law_178, if_pos g2, b_L_law_183, h1, am_C_v, b_L_law_186, if_pos g1, b_L_law_192, if_pos g2, b_L_law_197, h2, am_C_v, b_L_law_200, if_pos rfl]
theorem lg_205 (X : AMx) {i : Nat} (hi : i + 7 ≤ X.1) (hL : X.1 ≤ 3584) : am_LG X 205 i := by
  intro R Z A Y hI
  have g1 : am_in (nI i + 1) X.1 := by rw [show (1 : Int32) = nI 1 from rfl, nI_add]; exact am_in_nI (by omega) (by omega)
  obtain ⟨v, R1, Z1, A1, Y1, h1, h2, hI1⟩ := op_bear X (X.2 (nI i + 1).toNatClampNeg) R Z A Y hI
  obtain ⟨x, rfl⟩ := am_D_int X (k := 51) (List.mem_of_getElem? (i := 51) rfl) rfl h1
  refine ⟨R1, Z1, A1, Y1, hI1, ?_⟩
  rw [b_L_law_205, if_pos g1, b_L_law_211, h1, am_C_v, b_L_law_214, if_pos g1, b_L_law_220, h2, am_C_v, b_L_law_223, if_pos rfl]
theorem lg_228 (X : AMx) {i : Nat} (hi : i + 7 ≤ X.1) (hL : X.1 ≤ 3584) : am_LG X 228 i := by
  intro R Z A Y hI
  have g1 : am_in (nI i + 1) X.1 := by rw [show (1 : Int32) = nI 1 from rfl, nI_add]; exact am_in_nI (by omega) (by omega)
  have g2 : am_in (nI i + 2) X.1 := by rw [show (2 : Int32) = nI 2 from rfl, nI_add]; exact am_in_nI (by omega) (by omega)
  have g3 : am_in (nI i + 3) X.1 := by rw [show (3 : Int32) = nI 3 from rfl, nI_add]; exact am_in_nI (by omega) (by omega)
  obtain ⟨v, R1, Z1, A1, Y1, h1, h2, hI1⟩ := op_one X (X.2 (nI i + 1).toNatClampNeg) (X.2 (nI i + 2).toNatClampNeg) (X.2 (nI i + 3).toNatClampNeg) R Z A Y hI
  obtain ⟨x, rfl⟩ := am_D_int X (k := 52) (List.mem_of_getElem? (i := 52) rfl) rfl h1
  refine ⟨R1, Z1, A1, Y1, hI1, ?_⟩
  rw [b_L_law_228, if_pos g1, b_L_law_234, if_pos g2, b_L_law_239, if_pos g3, b_L_law_244, h1, am_C_v, b_L_law_247, if_pos g1, b_L_law_253, if_pos g2, b_L_law_258, if_pos g3, b_L_law_263, h2, am_C_v, b_L_law_266, if_pos rfl]
theorem lg_271 (X : AMx) {i : Nat} (hi : i + 7 ≤ X.1) (hL : X.1 ≤ 3584) : am_LG X 271 i := by
  intro R Z A Y hI
  have g1 : am_in (nI i + 1) X.1 := by rw [show (1 : Int32) = nI 1 from rfl, nI_add]; exact am_in_nI (by omega) (by omega)
  obtain ⟨v, R1, Z1, A1, Y1, h1, h2, hI1⟩ := op_leave X (X.2 (nI i + 1).toNatClampNeg) R Z A Y hI
  obtain ⟨x, rfl⟩ := am_D_int X (k := 53) (List.mem_of_getElem? (i := 53) rfl) rfl h1
  refine ⟨R1, Z1, A1, Y1, hI1, ?_⟩
  rw [b_L_law_271, if_pos g1, b_L_law_277, h1, am_C_v, b_L_law_280, if_pos g1, b_L_law_286, h2, am_C_v, b_L_law_289, if_pos rfl]
theorem lg_294 (X : AMx) {i : Nat} (hi : i + 7 ≤ X.1) (hL : X.1 ≤ 3584) : am_LG X 294 i := by
  intro R Z A Y hI
  have g1 : am_in (nI i + 1) X.1 := by rw [show (1 : Int32) = nI 1 from rfl, nI_add]; exact am_in_nI (by omega) (by omega)
  have g2 : am_in (nI i + 2) X.1 := by rw [show (2 : Int32) = nI 2 from rfl, nI_add]; exact am_in_nI (by omega) (by omega)
  have g3 : am_in (nI i + 3) X.1 := by rw [show (3 : Int32) = nI 3 from rfl, nI_add]; exact am_in_nI (by omega) (by omega)
  by_cases k0 : X.2 (nI i + 3).toNatClampNeg = 0
  · skip
    obtain ⟨v, R1, Z1, A1, Y1, h1, h2, hI1⟩ := op_kin X (X.2 (nI i + 1).toNatClampNeg) (X.2 (nI i + 2).toNatClampNeg) 0 R Z A Y hI
    obtain ⟨x, rfl⟩ := am_D_int X (k := 54) (List.mem_of_getElem? (i := 54) rfl) rfl h1
    refine ⟨R1, Z1, A1, Y1, hI1, ?_⟩
    rw [b_L_law_294, if_pos g1, b_L_law_300, if_pos g2, b_L_law_305, if_pos g3, b_L_law_310, if_pos k0, b_L_law_317, h1, am_C_v, b_L_law_321, if_pos g1, b_L_law_327, if_pos g2, b_L_law_332, if_pos g3, b_L_law_337, if_pos k0, b_L_law_344, h2, am_C_v, b_L_law_348, if_pos rfl]
  · skip
    obtain ⟨v, R1, Z1, A1, Y1, h1, h2, hI1⟩ := op_kin X (X.2 (nI i + 1).toNatClampNeg) (X.2 (nI i + 2).toNatClampNeg) 1 R Z A Y hI
    obtain ⟨x, rfl⟩ := am_D_int X (k := 54) (List.mem_of_getElem? (i := 54) rfl) rfl h1
    refine ⟨R1, Z1, A1, Y1, hI1, ?_⟩
    rw [b_L_law_294, if_pos g1, b_L_law_300, if_pos g2, b_L_law_305, if_pos g3, b_L_law_310, if_neg k0, b_L_law_313, h1, am_C_v, b_L_law_321, if_pos g1, b_L_law_327, if_pos g2, b_L_law_332, if_pos g3, b_L_law_337, if_neg k0, b_L_law_340, h2, am_C_v, b_L_law_348, if_pos rfl]
theorem lg_353 (X : AMx) {i : Nat} (hi : i + 7 ≤ X.1) (hL : X.1 ≤ 3584) : am_LG X 353 i := by
  intro R Z A Y hI
  have g1 : am_in (nI i + 1) X.1 := by rw [show (1 : Int32) = nI 1 from rfl, nI_add]; exact am_in_nI (by omega) (by omega)
  have g2 : am_in (nI i + 2) X.1 := by rw [show (2 : Int32) = nI 2 from rfl, nI_add]; exact am_in_nI (by omega) (by omega)
  have g3 : am_in (nI i + 3) X.1 := by rw [show (3 : Int32) = nI 3 from rfl, nI_add]; exact am_in_nI (by omega) (by omega)
  have g4 : am_in (nI i + 4) X.1 := by rw [show (4 : Int32) = nI 4 from rfl, nI_add]; exact am_in_nI (by omega) (by omega)
  obtain ⟨v, R1, Z1, A1, Y1, h1, h2, hI1⟩ := op_stair X (X.2 (nI i + 1).toNatClampNeg) (X.2 (nI i + 2).toNatClampNeg) (X.2 (nI i + 3).toNatClampNeg) (X.2 (nI i + 4).toNatClampNeg) R Z A Y hI
  obtain ⟨x, rfl⟩ := am_D_int X (k := 55) (List.mem_of_getElem? (i := 55) rfl) rfl h1
  refine ⟨R1, Z1, A1, Y1, hI1, ?_⟩
  rw [b_L_law_353, if_pos g1, b_L_law_359, if_pos g2, b_L_law_364, if_pos g3, b_L_law_369, if_pos g4, b_L_law_374, h1, am_C_v, b_L_law_377, if_pos g1, b_L_law_383, if_pos g2, b_L_law_388, if_pos g3, b_L_law_393, if_pos g4, b_L_law_398, h2, am_C_v, b_L_law_401, if_pos rfl]
theorem lg_406 (X : AMx) {i : Nat} (hi : i + 7 ≤ X.1) (hL : X.1 ≤ 3584) : am_LG X 406 i := by
  intro R Z A Y hI
  have g1 : am_in (nI i + 1) X.1 := by rw [show (1 : Int32) = nI 1 from rfl, nI_add]; exact am_in_nI (by omega) (by omega)
  obtain ⟨v, R1, Z1, A1, Y1, h1, h2, hI1⟩ := op_say X (X.2 (nI i + 1).toNatClampNeg) R Z A Y hI
  obtain ⟨x, rfl⟩ := am_D_int X (k := 56) (List.mem_of_getElem? (i := 56) rfl) rfl h1
  refine ⟨R1, Z1, A1, Y1, hI1, ?_⟩
  rw [b_L_law_406, if_pos g1, b_L_law_412, h1, am_C_v, b_L_law_415, if_pos g1, b_L_law_421, h2, am_C_v, b_L_law_424, if_pos rfl]
theorem lg_429 (X : AMx) {i : Nat} (hi : i + 7 ≤ X.1) (hL : X.1 ≤ 3584) : am_LG X 429 i := by
  intro R Z A Y hI
  obtain ⟨v, R1, Z1, A1, Y1, h1, h2, hI1⟩ := op_wipe X  R Z A Y hI
  obtain ⟨x, rfl⟩ := am_D_int X (k := 57) (List.mem_of_getElem? (i := 57) rfl) rfl h1
  refine ⟨R1, Z1, A1, Y1, hI1, ?_⟩
  rw [b_L_law_429, h1, am_C_v, b_L_law_433, h2, am_C_v, b_L_law_437, if_pos rfl]
theorem lg_442 (X : AMx) {i : Nat} (hi : i + 7 ≤ X.1) (hL : X.1 ≤ 3584) : am_LG X 442 i := by
  intro R Z A Y hI
  obtain ⟨v, R1, Z1, A1, Y1, h1, h2, hI1⟩ := op_fault X  R Z A Y hI
  obtain ⟨x, rfl⟩ := am_D_int X (k := 58) (List.mem_of_getElem? (i := 58) rfl) rfl h1
  refine ⟨R1, Z1, A1, Y1, hI1, ?_⟩
  rw [b_L_law_442, h1, am_C_v, b_L_law_446, h2, am_C_v, b_L_law_450, if_pos rfl]
theorem lg_455 (X : AMx) {i : Nat} (hi : i + 7 ≤ X.1) (hL : X.1 ≤ 3584) : am_LG X 455 i := by
  intro R Z A Y hI
  have g1 : am_in (nI i + 1) X.1 := by rw [show (1 : Int32) = nI 1 from rfl, nI_add]; exact am_in_nI (by omega) (by omega)
  obtain ⟨v, R1, Z1, A1, Y1, h1, h2, hI1⟩ := op_judge X (X.2 (nI i + 1).toNatClampNeg) R Z A Y hI
  obtain ⟨x, rfl⟩ := am_D_int X (k := 59) (List.mem_of_getElem? (i := 59) rfl) rfl h1
  refine ⟨R1, Z1, A1, Y1, hI1, ?_⟩
  rw [b_L_law_455, if_pos g1, b_L_law_461, h1, am_C_v, b_L_law_464, if_pos g1, b_L_law_470, h2, am_C_v, b_L_law_473, if_pos rfl]
theorem lg_478 (X : AMx) {i : Nat} (hi : i + 7 ≤ X.1) (hL : X.1 ≤ 3584) : am_LG X 478 i := by
  intro R Z A Y hI
  obtain ⟨v, R1, Z1, A1, Y1, h1, h2, hI1⟩ := op_done X  R Z A Y hI
  obtain ⟨x, rfl⟩ := am_D_int X (k := 60) (List.mem_of_getElem? (i := 60) rfl) rfl h1
  refine ⟨R1, Z1, A1, Y1, hI1, ?_⟩
  rw [b_L_law_478, h1, am_C_v, b_L_law_482, h2, am_C_v, b_L_law_486, if_pos rfl]
theorem lg_491 (X : AMx) {i : Nat} (hi : i + 7 ≤ X.1) (hL : X.1 ≤ 3584) : am_LG X 491 i := by
  intro R Z A Y hI
  have g1 : am_in (nI i + 1) X.1 := by rw [show (1 : Int32) = nI 1 from rfl, nI_add]; exact am_in_nI (by omega) (by omega)
  have g2 : am_in (nI i + 2) X.1 := by rw [show (2 : Int32) = nI 2 from rfl, nI_add]; exact am_in_nI (by omega) (by omega)
  obtain ⟨v, R1, Z1, A1, Y1, h1, h2, hI1⟩ := op_behind X (X.2 (nI i + 1).toNatClampNeg) (X.2 (nI i + 2).toNatClampNeg) R Z A Y hI
  obtain ⟨x, rfl⟩ := am_D_int X (k := 61) (List.mem_of_getElem? (i := 61) rfl) rfl h1
  refine ⟨R1, Z1, A1, Y1, hI1, ?_⟩
  rw [b_L_law_491, if_pos g1, b_L_law_497, if_pos g2, b_L_law_502, h1, am_C_v, b_L_law_505, if_pos g1, b_L_law_511, if_pos g2, b_L_law_516, h2, am_C_v, b_L_law_519, if_pos rfl]
theorem lg_524 (X : AMx) {i : Nat} (hi : i + 7 ≤ X.1) (hL : X.1 ≤ 3584) : am_LG X 524 i := by
  intro R Z A Y hI
  have g1 : am_in (nI i + 1) X.1 := by rw [show (1 : Int32) = nI 1 from rfl, nI_add]; exact am_in_nI (by omega) (by omega)
  have g2 : am_in (nI i + 2) X.1 := by rw [show (2 : Int32) = nI 2 from rfl, nI_add]; exact am_in_nI (by omega) (by omega)
  obtain ⟨v, R1, Z1, A1, Y1, h1, h2, hI1⟩ := op_wall X (X.2 (nI i + 1).toNatClampNeg) (X.2 (nI i + 2).toNatClampNeg) R Z A Y hI
  obtain ⟨x, rfl⟩ := am_D_int X (k := 62) (List.mem_of_getElem? (i := 62) rfl) rfl h1
  refine ⟨R1, Z1, A1, Y1, hI1, ?_⟩
  rw [b_L_law_524, if_pos g1, b_L_law_530, if_pos g2, b_L_law_535, h1, am_C_v, b_L_law_538, if_pos g1, b_L_law_544, if_pos g2, b_L_law_549, h2, am_C_v, b_L_law_552, if_pos rfl]
theorem lg_557 (X : AMx) {i : Nat} (hi : i + 7 ≤ X.1) (hL : X.1 ≤ 3584) : am_LG X 557 i := by
  intro R Z A Y hI
  have g1 : am_in (nI i + 1) X.1 := by rw [show (1 : Int32) = nI 1 from rfl, nI_add]; exact am_in_nI (by omega) (by omega)
  obtain ⟨v, R1, Z1, A1, Y1, h1, h2, hI1⟩ := op_fell X (X.2 (nI i + 1).toNatClampNeg) R Z A Y hI
  obtain ⟨x, rfl⟩ := am_D_int X (k := 63) (List.mem_of_getElem? (i := 63) rfl) rfl h1
  refine ⟨R1, Z1, A1, Y1, hI1, ?_⟩
  rw [b_L_law_557, if_pos g1, b_L_law_563, h1, am_C_v, b_L_law_566, if_pos g1, b_L_law_572, h2, am_C_v, b_L_law_575, if_pos rfl]
theorem lg_580 (X : AMx) {i : Nat} (hi : i + 7 ≤ X.1) (hL : X.1 ≤ 3584) : am_LG X 580 i := by
  intro R Z A Y hI
  have g1 : am_in (nI i + 1) X.1 := by rw [show (1 : Int32) = nI 1 from rfl, nI_add]; exact am_in_nI (by omega) (by omega)
  obtain ⟨v, R1, Z1, A1, Y1, h1, h2, hI1⟩ := op_bears X (X.2 (nI i + 1).toNatClampNeg) R Z A Y hI
  obtain ⟨x, rfl⟩ := am_D_int X (k := 64) (List.mem_of_getElem? (i := 64) rfl) rfl h1
  refine ⟨R1, Z1, A1, Y1, hI1, ?_⟩
  rw [b_L_law_580, if_pos g1, b_L_law_586, h1, am_C_v, b_L_law_589, if_pos g1, b_L_law_595, h2, am_C_v, b_L_law_598, if_pos rfl]
theorem lg_603 (X : AMx) {i : Nat} (hi : i + 7 ≤ X.1) (hL : X.1 ≤ 3584) : am_LG X 603 i := by
  intro R Z A Y hI
  have g1 : am_in (nI i + 1) X.1 := by rw [show (1 : Int32) = nI 1 from rfl, nI_add]; exact am_in_nI (by omega) (by omega)
  have g2 : am_in (nI i + 2) X.1 := by rw [show (2 : Int32) = nI 2 from rfl, nI_add]; exact am_in_nI (by omega) (by omega)
  obtain ⟨v, R1, Z1, A1, Y1, h1, h2, hI1⟩ := op_all X (X.2 (nI i + 1).toNatClampNeg) (X.2 (nI i + 2).toNatClampNeg) R Z A Y hI
  obtain ⟨x, rfl⟩ := am_D_int X (k := 65) (List.mem_of_getElem? (i := 65) rfl) rfl h1
  refine ⟨R1, Z1, A1, Y1, hI1, ?_⟩
  rw [b_L_law_603, if_pos g1, b_L_law_609, if_pos g2, b_L_law_614, h1, am_C_v, b_L_law_617, if_pos g1, b_L_law_623, if_pos g2, b_L_law_628, h2, am_C_v, b_L_law_631, if_pos rfl]
theorem lg_636 (X : AMx) {i : Nat} (hi : i + 7 ≤ X.1) (hL : X.1 ≤ 3584) : am_LG X 636 i := by
  intro R Z A Y hI
  have g1 : am_in (nI i + 1) X.1 := by rw [show (1 : Int32) = nI 1 from rfl, nI_add]; exact am_in_nI (by omega) (by omega)
  have g2 : am_in (nI i + 2) X.1 := by rw [show (2 : Int32) = nI 2 from rfl, nI_add]; exact am_in_nI (by omega) (by omega)
  have g3 : am_in (nI i + 3) X.1 := by rw [show (3 : Int32) = nI 3 from rfl, nI_add]; exact am_in_nI (by omega) (by omega)
  obtain ⟨v, R1, Z1, A1, Y1, h1, h2, hI1⟩ := op_wedges X (X.2 (nI i + 1).toNatClampNeg) (X.2 (nI i + 2).toNatClampNeg) (X.2 (nI i + 3).toNatClampNeg) R Z A Y hI
  obtain ⟨x, rfl⟩ := am_D_int X (k := 66) (List.mem_of_getElem? (i := 66) rfl) rfl h1
  refine ⟨R1, Z1, A1, Y1, hI1, ?_⟩
  rw [b_L_law_636, if_pos g1, b_L_law_642, if_pos g2, b_L_law_647, if_pos g3, b_L_law_652, h1, am_C_v, b_L_law_655, if_pos g1, b_L_law_661, if_pos g2, b_L_law_666, if_pos g3, b_L_law_671, h2, am_C_v, b_L_law_674, if_pos rfl]
theorem lg_679 (X : AMx) {i : Nat} (hi : i + 7 ≤ X.1) (hL : X.1 ≤ 3584) : am_LG X 679 i := by
  intro R Z A Y hI
  have g1 : am_in (nI i + 1) X.1 := by rw [show (1 : Int32) = nI 1 from rfl, nI_add]; exact am_in_nI (by omega) (by omega)
  have g2 : am_in (nI i + 2) X.1 := by rw [show (2 : Int32) = nI 2 from rfl, nI_add]; exact am_in_nI (by omega) (by omega)
  have g3 : am_in (nI i + 3) X.1 := by rw [show (3 : Int32) = nI 3 from rfl, nI_add]; exact am_in_nI (by omega) (by omega)
  have g4 : am_in (nI i + 4) X.1 := by rw [show (4 : Int32) = nI 4 from rfl, nI_add]; exact am_in_nI (by omega) (by omega)
  obtain ⟨v, R1, Z1, A1, Y1, h1, h2, hI1⟩ := op_meet X (X.2 (nI i + 1).toNatClampNeg) (X.2 (nI i + 2).toNatClampNeg) (X.2 (nI i + 3).toNatClampNeg) (X.2 (nI i + 4).toNatClampNeg) R Z A Y hI
  obtain ⟨x, rfl⟩ := am_D_int X (k := 67) (List.mem_of_getElem? (i := 67) rfl) rfl h1
  refine ⟨R1, Z1, A1, Y1, hI1, ?_⟩
  rw [b_L_law_679, if_pos g1, b_L_law_685, if_pos g2, b_L_law_690, if_pos g3, b_L_law_695, if_pos g4, b_L_law_700, h1, am_C_v, b_L_law_703, if_pos g1, b_L_law_709, if_pos g2, b_L_law_714, if_pos g3, b_L_law_719, if_pos g4, b_L_law_724, h2, am_C_v, b_L_law_727, if_pos rfl]
theorem lg_732 (X : AMx) {i : Nat} (hi : i + 7 ≤ X.1) (hL : X.1 ≤ 3584) : am_LG X 732 i := by
  intro R Z A Y hI
  have g1 : am_in (nI i + 1) X.1 := by rw [show (1 : Int32) = nI 1 from rfl, nI_add]; exact am_in_nI (by omega) (by omega)
  have g2 : am_in (nI i + 2) X.1 := by rw [show (2 : Int32) = nI 2 from rfl, nI_add]; exact am_in_nI (by omega) (by omega)
  have g3 : am_in (nI i + 3) X.1 := by rw [show (3 : Int32) = nI 3 from rfl, nI_add]; exact am_in_nI (by omega) (by omega)
  have g4 : am_in (nI i + 4) X.1 := by rw [show (4 : Int32) = nI 4 from rfl, nI_add]; exact am_in_nI (by omega) (by omega)
  obtain ⟨v, R1, Z1, A1, Y1, h1, h2, hI1⟩ := op_ways X (X.2 (nI i + 1).toNatClampNeg) (X.2 (nI i + 2).toNatClampNeg) (X.2 (nI i + 3).toNatClampNeg) (X.2 (nI i + 4).toNatClampNeg) R Z A Y hI
  obtain ⟨x, rfl⟩ := am_D_int X (k := 68) (List.mem_of_getElem? (i := 68) rfl) rfl h1
  refine ⟨R1, Z1, A1, Y1, hI1, ?_⟩
  rw [b_L_law_732, if_pos g1, b_L_law_738, if_pos g2, b_L_law_743, if_pos g3, b_L_law_748, if_pos g4, b_L_law_753, h1, am_C_v, b_L_law_756, if_pos g1, b_L_law_762, if_pos g2, b_L_law_767, if_pos g3, b_L_law_772, if_pos g4, b_L_law_777, h2, am_C_v, b_L_law_780, if_pos rfl]
theorem lg_785 (X : AMx) {i : Nat} (hi : i + 7 ≤ X.1) (hL : X.1 ≤ 3584) : am_LG X 785 i := by
  intro R Z A Y hI
  have g1 : am_in (nI i + 1) X.1 := by rw [show (1 : Int32) = nI 1 from rfl, nI_add]; exact am_in_nI (by omega) (by omega)
  have g2 : am_in (nI i + 2) X.1 := by rw [show (2 : Int32) = nI 2 from rfl, nI_add]; exact am_in_nI (by omega) (by omega)
  obtain ⟨v, R1, Z1, A1, Y1, h1, h2, hI1⟩ := op_reach X (X.2 (nI i + 1).toNatClampNeg) (X.2 (nI i + 2).toNatClampNeg) R Z A Y hI
  obtain ⟨x, rfl⟩ := am_D_int X (k := 69) (List.mem_of_getElem? (i := 69) rfl) rfl h1
  refine ⟨R1, Z1, A1, Y1, hI1, ?_⟩
  rw [b_L_law_785, if_pos g1, b_L_law_791, if_pos g2, b_L_law_796, h1, am_C_v, b_L_law_799, if_pos g1, b_L_law_805, if_pos g2, b_L_law_810, h2, am_C_v, b_L_law_813, if_pos rfl]
theorem lg_818 (X : AMx) {i : Nat} (hi : i + 7 ≤ X.1) (hL : X.1 ≤ 3584) : am_LG X 818 i := by
  intro R Z A Y hI
  have g1 : am_in (nI i + 1) X.1 := by rw [show (1 : Int32) = nI 1 from rfl, nI_add]; exact am_in_nI (by omega) (by omega)
  have g2 : am_in (nI i + 2) X.1 := by rw [show (2 : Int32) = nI 2 from rfl, nI_add]; exact am_in_nI (by omega) (by omega)
  obtain ⟨v, R1, Z1, A1, Y1, h1, h2, hI1⟩ := op_seen X (X.2 (nI i + 1).toNatClampNeg) (X.2 (nI i + 2).toNatClampNeg) R Z A Y hI
  obtain ⟨x, rfl⟩ := am_D_int X (k := 70) (List.mem_of_getElem? (i := 70) rfl) rfl h1
  refine ⟨R1, Z1, A1, Y1, hI1, ?_⟩
  rw [b_L_law_818, if_pos g1, b_L_law_824, if_pos g2, b_L_law_829, h1, am_C_v, b_L_law_832, if_pos g1, b_L_law_838, if_pos g2, b_L_law_843, h2, am_C_v, b_L_law_846, if_pos rfl]
theorem lg_851 (X : AMx) {i : Nat} (hi : i + 7 ≤ X.1) (hL : X.1 ≤ 3584) : am_LG X 851 i := by
  intro R Z A Y hI
  obtain ⟨v, R1, Z1, A1, Y1, h1, h2, hI1⟩ := op_forget X  R Z A Y hI
  obtain ⟨x, rfl⟩ := am_D_int X (k := 71) (List.mem_of_getElem? (i := 71) rfl) rfl h1
  refine ⟨R1, Z1, A1, Y1, hI1, ?_⟩
  rw [b_L_law_851, h1, am_C_v, b_L_law_855, h2, am_C_v, b_L_law_859, if_pos rfl]
theorem lg_864 (X : AMx) {i : Nat} (hi : i + 7 ≤ X.1) (hL : X.1 ≤ 3584) : am_LG X 864 i := by
  intro R Z A Y hI
  have g1 : am_in (nI i + 1) X.1 := by rw [show (1 : Int32) = nI 1 from rfl, nI_add]; exact am_in_nI (by omega) (by omega)
  obtain ⟨v, R1, Z1, A1, Y1, h1, h2, hI1⟩ := op_downs X (X.2 (nI i + 1).toNatClampNeg) R Z A Y hI
  obtain ⟨x, rfl⟩ := am_D_int X (k := 72) (List.mem_of_getElem? (i := 72) rfl) rfl h1
  refine ⟨R1, Z1, A1, Y1, hI1, ?_⟩
  rw [b_L_law_864, if_pos g1, b_L_law_870, h1, am_C_v, b_L_law_873, if_pos g1, b_L_law_879, h2, am_C_v, b_L_law_882, if_pos rfl]
theorem lg_887 (X : AMx) {i : Nat} (hi : i + 7 ≤ X.1) (hL : X.1 ≤ 3584) : am_LG X 887 i := by
  intro R Z A Y hI
  have g1 : am_in (nI i + 1) X.1 := by rw [show (1 : Int32) = nI 1 from rfl, nI_add]; exact am_in_nI (by omega) (by omega)
  obtain ⟨v, R1, Z1, A1, Y1, h1, h2, hI1⟩ := op_next X (X.2 (nI i + 1).toNatClampNeg) R Z A Y hI
  obtain ⟨x, rfl⟩ := am_D_int X (k := 73) (List.mem_of_getElem? (i := 73) rfl) rfl h1
  refine ⟨R1, Z1, A1, Y1, hI1, ?_⟩
  rw [b_L_law_887, if_pos g1, b_L_law_893, h1, am_C_v, b_L_law_896, if_pos g1, b_L_law_902, h2, am_C_v, b_L_law_905, if_pos rfl]
theorem lg_910 (X : AMx) {i : Nat} (hi : i + 7 ≤ X.1) (hL : X.1 ≤ 3584) : am_LG X 910 i := by
  intro R Z A Y hI
  have g1 : am_in (nI i + 1) X.1 := by rw [show (1 : Int32) = nI 1 from rfl, nI_add]; exact am_in_nI (by omega) (by omega)
  have g2 : am_in (nI i + 2) X.1 := by rw [show (2 : Int32) = nI 2 from rfl, nI_add]; exact am_in_nI (by omega) (by omega)
  obtain ⟨v, R1, Z1, A1, Y1, h1, h2, hI1⟩ := op_settle X (X.2 (nI i + 1).toNatClampNeg) (X.2 (nI i + 2).toNatClampNeg) R Z A Y hI
  obtain ⟨x, rfl⟩ := am_D_int X (k := 74) (List.mem_of_getElem? (i := 74) rfl) rfl h1
  refine ⟨R1, Z1, A1, Y1, hI1, ?_⟩
  rw [b_L_law_910, if_pos g1, b_L_law_916, if_pos g2, b_L_law_921, h1, am_C_v, b_L_law_924, if_pos g1, b_L_law_930, if_pos g2, b_L_law_935, h2, am_C_v, b_L_law_938, if_pos rfl]
theorem lg_943 (X : AMx) {i : Nat} (hi : i + 7 ≤ X.1) (hL : X.1 ≤ 3584) : am_LG X 943 i := by
  intro R Z A Y hI
  have g1 : am_in (nI i + 1) X.1 := by rw [show (1 : Int32) = nI 1 from rfl, nI_add]; exact am_in_nI (by omega) (by omega)
  obtain ⟨v, R1, Z1, A1, Y1, h1, h2, hI1⟩ := op_again X (X.2 (nI i + 1).toNatClampNeg) R Z A Y hI
  obtain ⟨x, rfl⟩ := am_D_int X (k := 75) (List.mem_of_getElem? (i := 75) rfl) rfl h1
  refine ⟨R1, Z1, A1, Y1, hI1, ?_⟩
  rw [b_L_law_943, if_pos g1, b_L_law_949, h1, am_C_v, b_L_law_952, if_pos g1, b_L_law_958, h2, am_C_v, b_L_law_961, if_pos rfl]
theorem lg_966 (X : AMx) {i : Nat} (hi : i + 7 ≤ X.1) (hL : X.1 ≤ 3584) : am_LG X 966 i := by
  intro R Z A Y hI
  have g1 : am_in (nI i + 1) X.1 := by rw [show (1 : Int32) = nI 1 from rfl, nI_add]; exact am_in_nI (by omega) (by omega)
  have g2 : am_in (nI i + 2) X.1 := by rw [show (2 : Int32) = nI 2 from rfl, nI_add]; exact am_in_nI (by omega) (by omega)
  have g3 : am_in (nI i + 3) X.1 := by rw [show (3 : Int32) = nI 3 from rfl, nI_add]; exact am_in_nI (by omega) (by omega)
  have g4 : am_in (nI i + 4) X.1 := by rw [show (4 : Int32) = nI 4 from rfl, nI_add]; exact am_in_nI (by omega) (by omega)
  have g5 : am_in (nI i + 5) X.1 := by rw [show (5 : Int32) = nI 5 from rfl, nI_add]; exact am_in_nI (by omega) (by omega)
  have g6 : am_in (nI i + 6) X.1 := by rw [show (6 : Int32) = nI 6 from rfl, nI_add]; exact am_in_nI (by omega) (by omega)
  obtain ⟨v, R1, Z1, A1, Y1, h1, h2, hI1⟩ := op_climb X (X.2 (nI i + 1).toNatClampNeg) (X.2 (nI i + 2).toNatClampNeg) (X.2 (nI i + 3).toNatClampNeg) (X.2 (nI i + 4).toNatClampNeg) (X.2 (nI i + 5).toNatClampNeg) (X.2 (nI i + 6).toNatClampNeg) R Z A Y hI
  obtain ⟨x, rfl⟩ := am_D_long X (k := 76) (List.mem_of_getElem? (i := 76) rfl) rfl h1
  refine ⟨R1, Z1, A1, Y1, hI1, ?_⟩
  rw [b_L_law_966, if_pos g1, b_L_law_972, if_pos g2, b_L_law_977, if_pos g3, b_L_law_982, if_pos g4, b_L_law_987, if_pos g5, b_L_law_992, if_pos g6, b_L_law_998, h1, am_C_v, b_L_law_1001, if_pos g1, b_L_law_1007, if_pos g2, b_L_law_1012, if_pos g3, b_L_law_1017, if_pos g4, b_L_law_1022, if_pos g5, b_L_law_1027, if_pos g6, b_L_law_1033, h2, am_C_v, b_L_law_1036, if_pos ((lg_cmp_eq _ _).mpr rfl)]
theorem lg_1042 (X : AMx) {i : Nat} (hi : i + 7 ≤ X.1) (hL : X.1 ≤ 3584) : am_LG X 1042 i := by
  intro R Z A Y hI
  have g1 : am_in (nI i + 1) X.1 := by rw [show (1 : Int32) = nI 1 from rfl, nI_add]; exact am_in_nI (by omega) (by omega)
  have g2 : am_in (nI i + 2) X.1 := by rw [show (2 : Int32) = nI 2 from rfl, nI_add]; exact am_in_nI (by omega) (by omega)
  have g3 : am_in (nI i + 3) X.1 := by rw [show (3 : Int32) = nI 3 from rfl, nI_add]; exact am_in_nI (by omega) (by omega)
  obtain ⟨v, R1, Z1, A1, Y1, h1, h2, hI1⟩ := op_book X (X.2 (nI i + 1).toNatClampNeg) (X.2 (nI i + 2).toNatClampNeg) (X.2 (nI i + 3).toNatClampNeg) R Z A Y hI
  obtain ⟨x, rfl⟩ := am_D_int X (k := 77) (List.mem_of_getElem? (i := 77) rfl) rfl h1
  refine ⟨R1, Z1, A1, Y1, hI1, ?_⟩
  rw [b_L_law_1042, if_pos g1, b_L_law_1048, if_pos g2, b_L_law_1053, if_pos g3, b_L_law_1058, h1, am_C_v, b_L_law_1061, if_pos g1, b_L_law_1067, if_pos g2, b_L_law_1072, if_pos g3, b_L_law_1077, h2, am_C_v, b_L_law_1080, if_pos rfl]
theorem lg_1085 (X : AMx) {i : Nat} (hi : i + 7 ≤ X.1) (hL : X.1 ≤ 3584) : am_LG X 1085 i := by
  intro R Z A Y hI
  have g1 : am_in (nI i + 1) X.1 := by rw [show (1 : Int32) = nI 1 from rfl, nI_add]; exact am_in_nI (by omega) (by omega)
  obtain ⟨v, R1, Z1, A1, Y1, h1, h2, hI1⟩ := op_image X (X.2 (nI i + 1).toNatClampNeg) R Z A Y hI
  obtain ⟨x, rfl⟩ := am_D_int X (k := 78) (List.mem_of_getElem? (i := 78) rfl) rfl h1
  refine ⟨R1, Z1, A1, Y1, hI1, ?_⟩
  rw [b_L_law_1085, if_pos g1, b_L_law_1091, h1, am_C_v, b_L_law_1094, if_pos g1, b_L_law_1100, h2, am_C_v, b_L_law_1103, if_pos rfl]
theorem lg_1108 (X : AMx) {i : Nat} (hi : i + 7 ≤ X.1) (hL : X.1 ≤ 3584) : am_LG X 1108 i := by
  intro R Z A Y hI
  have g1 : am_in (nI i + 1) X.1 := by rw [show (1 : Int32) = nI 1 from rfl, nI_add]; exact am_in_nI (by omega) (by omega)
  obtain ⟨v, R1, Z1, A1, Y1, h1, h2, hI1⟩ := op_restore X (X.2 (nI i + 1).toNatClampNeg) R Z A Y hI
  obtain ⟨x, rfl⟩ := am_D_int X (k := 79) (List.mem_of_getElem? (i := 79) rfl) rfl h1
  refine ⟨R1, Z1, A1, Y1, hI1, ?_⟩
  rw [b_L_law_1108, if_pos g1, b_L_law_1114, h1, am_C_v, b_L_law_1117, if_pos g1, b_L_law_1123, h2, am_C_v, b_L_law_1126, if_pos rfl]
theorem lg_1131 (X : AMx) {i : Nat} (hi : i + 7 ≤ X.1) (hL : X.1 ≤ 3584) : am_LG X 1131 i := by
  intro R Z A Y hI
  have g1 : am_in (nI i + 1) X.1 := by rw [show (1 : Int32) = nI 1 from rfl, nI_add]; exact am_in_nI (by omega) (by omega)
  obtain ⟨v, R1, Z1, A1, Y1, h1, h2, hI1⟩ := op_told X (X.2 (nI i + 1).toNatClampNeg) R Z A Y hI
  obtain ⟨x, rfl⟩ := am_D_int X (k := 80) (List.mem_of_getElem? (i := 80) rfl) rfl h1
  refine ⟨R1, Z1, A1, Y1, hI1, ?_⟩
  rw [b_L_law_1131, if_pos g1, b_L_law_1137, h1, am_C_v, b_L_law_1140, if_pos g1, b_L_law_1146, h2, am_C_v, b_L_law_1149, if_pos rfl]
/-- the law's loop -/
theorem law_loop (X : AMx) (hL : X.1 ≤ 3584) : ∀ d i, X.1 ≤ i + 7 * d → i ≤ X.1 → ∀ (R : Nat → Nat → Int32) (Z : Nat → Int32) (A : Nat → Nat → Int32) (Y : Nat → Int32), am_INV R Z A Y → ∃ (R' : Nat → Nat → Int32) (Z' : Nat → Int32) (A' : Nat → Nat → Int32) (Y' : Nat → Int32), am_E X AM_L_law 18 [some (.ref 1000000), some (.ref 0), some (.ref 88), some (.int (nI i))] [] (am_WH R Z A Y) = some (some (.int 1), am_WH R' Z' A' Y') := by
  have hend : ∀ i, i ≤ X.1 → ¬ i + 7 ≤ X.1 → ∀ (R : Nat → Nat → Int32) (Z : Nat → Int32) (A : Nat → Nat → Int32) (Y : Nat → Int32), am_E X AM_L_law 18 [some (.ref 1000000), some (.ref 0), some (.ref 88), some (.int (nI i))] [] (am_WH R Z A Y) = some (some (.int 1), am_WH R Z A Y) := by
    intro i hi h7 R Z A Y
    have e7 : (7 : Int32).toInt = 7 := rfl
    have eX : (Int32.ofNat X.1).toInt = X.1 := nI_toInt (n := X.1) (by omega)
    have es : (Int32.ofNat X.1 - 7).toInt = (X.1 : Int) - 7 := by rw [am_sub (by omega) (by omega), eX, e7]
    rw [b_L_law_18, if_pos (by rw [Int32.lt_iff_toInt_lt, es, nI_toInt (by omega)]; omega), b_L_law_1160]
  intro d
  induction d with
  | zero =>
    intro i h1 h2 R Z A Y hI
    exact ⟨R, Z, A, Y, hend i h2 (by omega) R Z A Y⟩
  | succ d ih =>
    intro i h1 h2 R Z A Y hI
    by_cases hi : i + 7 ≤ X.1
    · have e7 : (7 : Int32).toInt = 7 := rfl
      have eX : (Int32.ofNat X.1).toInt = X.1 := nI_toInt (n := X.1) (by omega)
      have es : (Int32.ofNat X.1 - 7).toInt = (X.1 : Int) - 7 := by rw [am_sub (by omega) (by omega), eX, e7]
      have go : ∀ pc, am_LG X pc i → ∃ (R' : Nat → Nat → Int32) (Z' : Nat → Int32) (A' : Nat → Nat → Int32) (Y' : Nat → Int32), am_E X AM_L_law pc [some (.ref 1000000), some (.ref 0), some (.ref 88), some (.int (nI i))] [] (am_WH R Z A Y) = some (some (.int 1), am_WH R' Z' A' Y') := by
        intro pc hg
        obtain ⟨R1, Z1, A1, Y1, hI1, e⟩ := hg R Z A Y hI
        obtain ⟨R2, Z2, A2, Y2, e2⟩ := ih (i + 7) (by omega) hi R1 Z1 A1 Y1 hI1
        exact ⟨R2, Z2, A2, Y2, by rw [e, b_L_law_1154, show (7 : Int32) = nI 7 from rfl, nI_add, e2]⟩
      rw [b_L_law_18, if_neg (by rw [Int32.lt_iff_toInt_lt, es, nI_toInt (by omega)]; omega), b_L_law_27, if_pos (am_in_nI (by omega) (by omega)), b_L_law_30]
      generalize X.2 (nI i).toNatClampNeg &&& 31 = s
      by_cases c0 : s = 0
      · rw [if_pos c0]; exact go 172 (lg_172 X hi hL)
      rw [if_neg c0]
      by_cases c1 : s = 1
      · rw [if_pos c1]; exact go 205 (lg_205 X hi hL)
      rw [if_neg c1]
      by_cases c2 : s = 2
      · rw [if_pos c2]; exact go 228 (lg_228 X hi hL)
      rw [if_neg c2]
      by_cases c3 : s = 3
      · rw [if_pos c3]; exact go 271 (lg_271 X hi hL)
      rw [if_neg c3]
      by_cases c4 : s = 4
      · rw [if_pos c4]; exact go 294 (lg_294 X hi hL)
      rw [if_neg c4]
      by_cases c5 : s = 5
      · rw [if_pos c5]; exact go 353 (lg_353 X hi hL)
      rw [if_neg c5]
      by_cases c6 : s = 6
      · rw [if_pos c6]; exact go 406 (lg_406 X hi hL)
      rw [if_neg c6]
      by_cases c7 : s = 7
      · rw [if_pos c7]; exact go 429 (lg_429 X hi hL)
      rw [if_neg c7]
      by_cases c8 : s = 8
      · rw [if_pos c8]; exact go 442 (lg_442 X hi hL)
      rw [if_neg c8]
      by_cases c9 : s = 9
      · rw [if_pos c9]; exact go 455 (lg_455 X hi hL)
      rw [if_neg c9]
      by_cases c10 : s = 10
      · rw [if_pos c10]; exact go 478 (lg_478 X hi hL)
      rw [if_neg c10]
      by_cases c11 : s = 11
      · rw [if_pos c11]; exact go 491 (lg_491 X hi hL)
      rw [if_neg c11]
      by_cases c12 : s = 12
      · rw [if_pos c12]; exact go 524 (lg_524 X hi hL)
      rw [if_neg c12]
      by_cases c13 : s = 13
      · rw [if_pos c13]; exact go 557 (lg_557 X hi hL)
      rw [if_neg c13]
      by_cases c14 : s = 14
      · rw [if_pos c14]; exact go 580 (lg_580 X hi hL)
      rw [if_neg c14]
      by_cases c15 : s = 15
      · rw [if_pos c15]; exact go 603 (lg_603 X hi hL)
      rw [if_neg c15]
      by_cases c16 : s = 16
      · rw [if_pos c16]; exact go 636 (lg_636 X hi hL)
      rw [if_neg c16]
      by_cases c17 : s = 17
      · rw [if_pos c17]; exact go 679 (lg_679 X hi hL)
      rw [if_neg c17]
      by_cases c18 : s = 18
      · rw [if_pos c18]; exact go 732 (lg_732 X hi hL)
      rw [if_neg c18]
      by_cases c19 : s = 19
      · rw [if_pos c19]; exact go 785 (lg_785 X hi hL)
      rw [if_neg c19]
      by_cases c20 : s = 20
      · rw [if_pos c20]; exact go 818 (lg_818 X hi hL)
      rw [if_neg c20]
      by_cases c21 : s = 21
      · rw [if_pos c21]; exact go 851 (lg_851 X hi hL)
      rw [if_neg c21]
      by_cases c22 : s = 22
      · rw [if_pos c22]; exact go 864 (lg_864 X hi hL)
      rw [if_neg c22]
      by_cases c23 : s = 23
      · rw [if_pos c23]; exact go 887 (lg_887 X hi hL)
      rw [if_neg c23]
      by_cases c24 : s = 24
      · rw [if_pos c24]; exact go 910 (lg_910 X hi hL)
      rw [if_neg c24]
      by_cases c25 : s = 25
      · rw [if_pos c25]; exact go 943 (lg_943 X hi hL)
      rw [if_neg c25]
      by_cases c26 : s = 26
      · rw [if_pos c26]; exact go 966 (lg_966 X hi hL)
      rw [if_neg c26]
      by_cases c27 : s = 27
      · rw [if_pos c27]; exact go 1042 (lg_1042 X hi hL)
      rw [if_neg c27]
      by_cases c28 : s = 28
      · rw [if_pos c28]; exact go 1085 (lg_1085 X hi hL)
      rw [if_neg c28]
      by_cases c29 : s = 29
      · rw [if_pos c29]; exact go 1108 (lg_1108 X hi hL)
      rw [if_neg c29]
      by_cases c30 : s = 30
      · rw [if_pos c30]; exact go 1131 (lg_1131 X hi hL)
      rw [if_neg c30]
      exact go 1154 (fun R Z A Y hI => ⟨R, Z, A, Y, hI, rfl⟩)
    · exact ⟨R, Z, A, Y, hend i h2 hi R Z A Y⟩
