/-! The beginning: what the constructors leave (run by the kernel). -/
/-- what a cell must be: an array (its first numbers), an object -/
abbrev AMq : Type := (Nat × Nat × List Int32) ⊕ (Nat × List Value)
def am_veq : Value → Value → Bool
  | .int x, .int y => decide (x = y)
  | .ref x, .ref y => Nat.beq x y
  | _, _ => false
theorem am_veq_t : ∀ {u v : Value}, am_veq u v = true → u = v := by
  intro u v h
  cases u <;> cases v <;> simp only [am_veq] at h <;> first | cases h | (exact congrArg _ (of_decide_eq_true h)) | (exact congrArg _ (Nat.eq_of_beq_eq_true h))
def am_vse : List Value → List Value → Bool
  | [], [] => true
  | u :: us, v :: vs => am_veq u v && am_vse us vs
  | _, _ => false
theorem am_vse_t : ∀ {us vs : List Value}, am_vse us vs = true → us = vs
  | [], [], _ => rfl
  | [], _ :: _, h => by cases h
  | _ :: _, [], h => by cases h
  | u :: us, v :: vs, h => by
    have h2 : (am_veq u v && am_vse us vs) = true := h
    rw [Bool.and_eq_true] at h2
    rw [am_veq_t h2.1, am_vse_t h2.2]
def am_cv (f : Nat → Int32) : List Int32 → Nat → Bool
  | [], _ => true
  | x :: t, k => decide (f k = x) && am_cv f t (k + 1)
theorem am_cv_t {f : Nat → Int32} : ∀ {l : List Int32} {k : Nat}, am_cv f l k = true → ∀ (j : Nat) (x : Int32), l[j]? = some x → f (k + j) = x
  | [], _, _, j, x, h => by simp at h
  | y :: t, k, h, j, x, hx => by
    have h2 : (decide (f k = y) && am_cv f t (k + 1)) = true := h
    rw [Bool.and_eq_true, decide_eq_true_eq] at h2
    cases j with
    | zero => rw [List.getElem?_cons_zero] at hx; rw [Nat.add_zero, h2.1]; exact Option.some.inj hx
    | succ j => rw [List.getElem?_cons_succ] at hx; rw [show k + (j + 1) = k + 1 + j by omega]; exact am_cv_t h2.2 j x hx
def am_ck : List AMq → List AMc → Bool
  | [], [] => true
  | .inl (t, n, vs) :: q, .inl (t2, n2, f) :: h => Nat.beq t t2 && (Nat.beq n n2 && (am_cv f vs 0 && am_ck q h))
  | .inr (ci, us) :: q, .inr (ci2, vs) :: h => Nat.beq ci ci2 && (am_vse us vs && am_ck q h)
  | _, _ => false
/-- cells of that form, with contents F by their places -/
def am_bd (F : Nat → Nat → Int32) : List AMq → Nat → List AMc
  | [], _ => []
  | .inl (t, n, _) :: q, i => .inl (t, n, F i) :: am_bd F q (i + 1)
  | .inr (ci, us) :: q, i => .inr (ci, us) :: am_bd F q (i + 1)
theorem am_bd_ext {F G : Nat → Nat → Int32} : ∀ {q : List AMq} {i : Nat}, (∀ j, i ≤ j → F j = G j) → am_bd F q i = am_bd G q i
  | [], _, _ => rfl
  | .inl (t, n, vs) :: q, i, h => by
    show (Sum.inl (t, n, F i) : AMc) :: am_bd F q (i + 1) = (Sum.inl (t, n, G i) : AMc) :: am_bd G q (i + 1)
    rw [h i (Nat.le_refl _), am_bd_ext (fun j hj => h j (by omega))]
  | .inr (ci, us) :: q, i, h => by
    show (Sum.inr (ci, us) : AMc) :: am_bd F q (i + 1) = (Sum.inr (ci, us) : AMc) :: am_bd G q (i + 1)
    rw [am_bd_ext (fun j hj => h j (by omega))]
theorem am_ck_t : ∀ {q : List AMq} {h : List AMc} (i : Nat), am_ck q h = true → ∃ F : Nat → Nat → Int32, h = am_bd F q i ∧ ∀ (p t n : Nat) (vs : List Int32), q[p]? = some (.inl (t, n, vs)) → ∀ (j : Nat) (x : Int32), vs[j]? = some x → F (i + p) j = x
  | [], [], i, _ => ⟨fun _ _ => 0, rfl, fun p t n vs h => by simp at h⟩
  | [], _ :: _, _, h => by cases h
  | .inl (t, n, vs) :: q, [], _, h => by cases h
  | .inr (ci, us) :: q, [], _, h => by cases h
  | .inl (t, n, vs) :: q, .inr (ci2, vs2) :: h, _, hk => by cases hk
  | .inr (ci, us) :: q, .inl (t2, n2, f) :: h, _, hk => by cases hk
  | .inl (t, n, vs) :: q, .inl (t2, n2, f) :: h, i, hk => by
    have h2 : (Nat.beq t t2 && (Nat.beq n n2 && (am_cv f vs 0 && am_ck q h))) = true := hk
    simp only [Bool.and_eq_true] at h2
    obtain ⟨F, hF, hv⟩ := am_ck_t (i + 1) h2.2.2.2
    refine ⟨fun j => if j = i then f else F j, ?_, ?_⟩
    · show (Sum.inl (t2, n2, f) : AMc) :: h = (Sum.inl (t, n, if i = i then f else F i) : AMc) :: am_bd (fun j => if j = i then f else F j) q (i + 1)
      rw [if_pos rfl, Nat.eq_of_beq_eq_true h2.1, Nat.eq_of_beq_eq_true h2.2.1, hF]
      congr 1
      exact am_bd_ext (fun j hj => (if_neg (by omega)).symm)
    · intro p t' n' vs' hp j x hx
      cases p with
      | zero =>
        rw [List.getElem?_cons_zero] at hp
        cases hp
        show (if i + 0 = i then f else F (i + 0)) j = x
        rw [if_pos (by omega)]
        have := am_cv_t h2.2.2.1 j x hx
        rwa [Nat.zero_add] at this
      | succ p =>
        rw [List.getElem?_cons_succ] at hp
        show (if i + (p + 1) = i then f else F (i + (p + 1))) j = x
        rw [if_neg (by omega), show i + (p + 1) = i + 1 + p by omega]
        exact hv p t' n' vs' hp j x hx
  | .inr (ci, us) :: q, .inr (ci2, vs) :: h, i, hk => by
    have h2 : (Nat.beq ci ci2 && (am_vse us vs && am_ck q h)) = true := hk
    simp only [Bool.and_eq_true] at h2
    obtain ⟨F, hF, hv⟩ := am_ck_t (i + 1) h2.2.2
    refine ⟨F, ?_, ?_⟩
    · show (Sum.inr (ci2, vs) : AMc) :: h = (Sum.inr (ci, us) : AMc) :: am_bd F q (i + 1)
      rw [Nat.eq_of_beq_eq_true h2.1, am_vse_t h2.2.1, hF]
    · intro p t' n' vs' hp j x hx
      cases p with
      | zero => rw [List.getElem?_cons_zero] at hp; cases hp
      | succ p =>
        rw [List.getElem?_cons_succ] at hp
        rw [show i + (p + 1) = i + 1 + p by omega]
        exact hv p t' n' vs' hp j x hx
/-! what a run is, of another script: the same, where the law itself isn't called -/
theorem am_stp_X {X X2 : AMx} {M : AMinfo} (hM : am_lw M = false) (pc : Nat) (L : AMl) (S : List Value) (h : List AMc) : am_stp X M pc L S h = am_stp X2 M pc L S h := by
  unfold am_stp
  cases am_fnd (am_rows M) pc with
  | none => rfl
  | some rd =>
    obtain ⟨ins, len, a, b, v, tab, t⟩ := rd
    cases ins <;> first | rfl | (simp only [hM, cond_false])
def am_nlaw (M : AMinfo) : Bool := (am_rows M).all (fun r => Nat.blt 900 (r.2.2.2.1 + 1) || Nat.blt r.2.2.2.1 155)
theorem am_nl_all : ∀ k, k < 155 → am_lw (am_mg k) = false ∧ am_nlaw (am_mg k) = true := by decide +kernel
theorem am_cal_k {M : AMinfo} {pc : Nat} {S : List Value} {h : List AMc} {q : Nat × List Value × List Value} (hM : am_nlaw M = true) (hq : am_cal M pc S h = some q) : q.1 < 155 := by
  unfold am_cal at hq
  cases hf : am_fnd (am_rows M) pc with
  | none => rw [hf] at hq; cases hq
  | some rd =>
    rw [hf] at hq
    have hm := List.all_eq_true.mp hM _ (am_fnd_mem hf)
    obtain ⟨ins, len, a, b, v, tab, t⟩ := rd
    have hm2 : Nat.blt 900 (a + 1) = true ∨ Nat.blt a 155 = true := by
      rcases (Bool.or_eq_true _ _).mp hm with z | z
      · exact Or.inl z
      · exact Or.inr z
    have fin : ∀ c : Bool, (bif Nat.blt a 900 && c then some (a, (S.take b).reverse, S.drop b) else none) = some q → q.1 < 155 := by
      intro c hc
      cases hb : (Nat.blt a 900 && c) with
      | false => rw [hb] at hc; cases hc
      | true =>
        rw [hb] at hc
        cases hc
        rw [Bool.and_eq_true] at hb
        have h9 : a + 1 ≤ 900 := Nat.le_of_ble_eq_true hb.1
        rcases hm2 with z | z
        · have : 900 + 1 ≤ a + 1 := Nat.le_of_ble_eq_true z
          omega
        · exact Nat.le_of_ble_eq_true z
    cases ins <;> dsimp only at hq <;> first | (cases hq; done) | (exact fin _ hq) | (rw [Bool.and_assoc] at hq; exact fin _ hq)
theorem am_run_X {X X2 : AMx} : ∀ (n : Nat) (M : AMinfo), am_lw M = false → am_nlaw M = true → ∀ (pc : Nat) (L : AMl) (S : List Value) (h : List AMc), am_run X n M pc L S h = am_run X2 n M pc L S h := by
  intro n
  induction n with
  | zero => intro M _ _ pc L S h; rfl
  | succ n ih =>
    intro M h1 h2 pc L S h
    rw [am_run, am_run, am_stp_X (X2 := X2) h1 pc L S h]
    cases am_stp X2 M pc L S h with
    | some st => exact ih M h1 h2 _ _ _ _
    | none =>
      dsimp only
      cases am_ret M pc S with
      | some v => rfl
      | none =>
        dsimp only
        cases hq : am_cal M pc S h with
        | none => rfl
        | some q =>
          dsimp only
          have hk := am_nl_all q.1 (am_cal_k h2 hq)
          rw [ih (am_mg q.1) hk.1 hk.2]
          cases am_run X2 n (am_mg q.1) 0 (am_ent (am_mg q.1) q.2.1) [] h with
          | none => rfl
          | some r => 
            dsimp only
            rw [ih M h1 h2]
/-! the law's calls of constructors -/
theorem am_E_callA {X : AMx} {M : AMinfo} (k : Nat) {pc p d : Nat} {L L1 : AMl} {S S1 as rest : List Value} {h h1 : List AMc} (e0 : am_it X M k (pc, L, S, h) = some (p, L1, S1, h1)) (e : am_stp X M p L1 S1 h1 = none) (e2 : am_ret M p S1 = none) (e3 : am_cal M p S1 h1 = some (d, as, rest)) {o : Option Value} {h2 : List AMc} (hd : am_D X d as h1 = some (o, h2)) (hb : am_bk (am_mg d) L1 rest h1 h2 = true) : am_E X M pc L S h = am_E X M (p + 3) L1 (o.toList ++ rest) h2 := by
  rw [am_E_n k e0]
  obtain ⟨n1, g1⟩ := am_E_iff.mp hd
  apply Option.ext
  intro w
  rw [am_E_iff, am_E_iff]
  constructor
  · intro hr
    obtain ⟨n, hn⟩ := hr
    cases n with
    | zero => simp [am_run] at hn
    | succ n =>
      rw [am_run] at hn
      simp only [e, e2, e3] at hn
      cases h4 : am_run X n (am_mg d) 0 (am_ent (am_mg d) as) [] h1 with
      | none => simp only [h4] at hn; cases hn
      | some r =>
        have er : r = (o, h2) := Option.some.inj ((am_E_iff.mpr ⟨n, h4⟩).symm.trans hd)
        subst er
        simp only [h4, hb, cond_true] at hn
        exact ⟨n, hn⟩
  · intro hr
    obtain ⟨n2, g2⟩ := hr
    refine ⟨max n1 n2 + 1, ?_⟩
    rw [am_run]
    simp only [e, e2, e3, am_run_le X (Nat.le_max_left n1 n2) g1, hb, cond_true]
    exact am_run_le X (Nat.le_max_right n1 n2) g2
def am_X0 : AMx := (0, fun _ => 0)
def am_R5 : Option (Option Value × List AMc) := am_run am_X0 3000 (am_mg 49) 0 (am_ent (am_mg 49) [.ref 0]) [] [.inr (5, am_df 5)]
def am_sn : Option (Option Value × List AMc) → List AMc
  | some r => r.2
  | none => []
def am_H5 : List AMc := am_sn am_R5
def am_R6 : Option (Option Value × List AMc) := am_run am_X0 1000 (am_mg 97) 0 (am_ent (am_mg 97) [.ref 88]) [] (am_H5 ++ [.inr (6, am_df 6)])
def am_H6 : List AMc := am_sn am_R6
def am_ok0 : Option (Option Value × List AMc) → Bool
  | some (none, _) => true
  | _ => false
