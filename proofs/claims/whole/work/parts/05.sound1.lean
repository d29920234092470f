/-! What the small machine does, the JVM does. -/
def am_rv (ad : Nat → Nat) : Value → Value
  | .ref i => .ref (ad i)
  | v => v
theorem am_rv_cat (ad : Nat → Nat) (v : Value) : (am_rv ad v).category = v.category := by cases v <;> rfl
def am_cC (G : ClassId × ClassId) (ad : Nat → Nat) : AMc → va_E
  | .inl (t, n, f) => .inl (bif Nat.beq t 0 then G.1 else G.2, n, .inl f)
  | .inr (ci, fs) => .inr (ci, fs.map (am_rv ad))
def am_cW (G : ClassId × ClassId) (ad : Nat → Nat) (h : List AMc) : va_W := h.mapIdx (fun i c => (ad i, am_cC G ad c))
def am_sz1 : AMc → Nat
  | .inl (_, n, _) => n
  | .inr (_, fs) => fs.length
def am_sz (h : List AMc) : Nat := (h.map am_sz1).sum
theorem am_cW_get {G : ClassId × ClassId} {ad : Nat → Nat} {h : List AMc} {i : Nat} {c : AMc} (hc : h[i]? = some c) : (am_cW G ad h)[i]? = some (ad i, am_cC G ad c) := by
  unfold am_cW
  rw [List.getElem?_mapIdx, hc]
  rfl
theorem am_cW_set {G : ClassId × ClassId} {ad : Nat → Nat} {h : List AMc} {i : Nat} {c : AMc} : (am_cW G ad h).set i (ad i, am_cC G ad c) = am_cW G ad (h.set i c) := by
  apply List.ext_getElem?
  intro j
  unfold am_cW
  rw [List.getElem?_mapIdx, List.getElem?_set, List.getElem?_set, List.length_mapIdx, List.getElem?_mapIdx]
  by_cases h1 : i = j
  · subst h1
    by_cases h2 : i < h.length <;> simp [h2]
  · simp [h1]
theorem am_sz_set {h : List AMc} {i : Nat} {c c' : AMc} (hc : h[i]? = some c) (e : am_sz1 c' = am_sz1 c) : am_sz (h.set i c') = am_sz h := by
  unfold am_sz
  have : (h.set i c').map am_sz1 = h.map am_sz1 := by
    apply List.ext_getElem?
    intro j
    rw [List.getElem?_map, List.getElem?_map, List.getElem?_set]
    by_cases h1 : i = j
    · subst h1
      obtain ⟨hl, hv⟩ := List.getElem?_eq_some_iff.mp hc
      simp [hl, hv, e]
    · simp [h1]
  rw [this]
theorem am_rv_ext {n : Nat} {ad ad' : Nat → Nat} (h : ∀ i, i < n ∨ i = am_SCR → ad' i = ad i) {v : Value} (hv : am_wfv n v = true) : am_rv ad' v = am_rv ad v := by
  cases v with
  | ref i =>
    simp only [am_wfv, Bool.or_eq_true] at hv
    have : i < n ∨ i = am_SCR := hv.imp (fun z => (Nat.le_of_ble_eq_true z : i + 1 ≤ n)) (fun z => Nat.eq_of_beq_eq_true z)
    show Value.ref (ad' i) = Value.ref (ad i)
    rw [h i this]
  | _ => rfl
theorem am_cC_ext {G : ClassId × ClassId} {n : Nat} {ad ad' : Nat → Nat} (h : ∀ i, i < n ∨ i = am_SCR → ad' i = ad i) {c : AMc} (hc : am_wfc n c = true) : am_cC G ad' c = am_cC G ad c := by
  obtain ⟨t, m, f⟩ | ⟨ci, fs⟩ := c
  · rfl
  · show Sum.inr (ci, fs.map (am_rv ad')) = Sum.inr (ci, fs.map (am_rv ad))
    have : fs.map (am_rv ad') = fs.map (am_rv ad) := List.map_congr_left (fun v hv => am_rv_ext h (List.all_eq_true.mp hc v hv))
    rw [this]
theorem am_cW_ext {G : ClassId × ClassId} {ad ad' : Nat → Nat} {h : List AMc} (e : ∀ i, i < h.length ∨ i = am_SCR → ad' i = ad i) (hw : h.all (am_wfc h.length) = true) : am_cW G ad' h = am_cW G ad h := by
  apply List.ext_getElem?
  intro j
  unfold am_cW
  rw [List.getElem?_mapIdx, List.getElem?_mapIdx]
  cases hj : h[j]? with
  | none => rfl
  | some c =>
    obtain ⟨hl, -⟩ := List.getElem?_eq_some_iff.mp hj
    show some (ad' j, am_cC G ad' c) = some (ad j, am_cC G ad c)
    rw [e j (Or.inl hl), am_cC_ext e (List.all_eq_true.mp hw c (List.mem_of_getElem? hj))]
theorem am_cW_push {G : ClassId × ClassId} {ad ad' : Nat → Nat} {h : List AMc} {c : AMc} (e : ∀ i, i < h.length ∨ i = am_SCR → ad' i = ad i) (hw : h.all (am_wfc h.length) = true) : am_cW G ad' (h ++ [c]) = am_cW G ad h ++ [(ad' h.length, am_cC G ad' c)] := by
  rw [← am_cW_ext (G := G) e hw]
  unfold am_cW
  rw [List.mapIdx_append]
  simp
def am_LR (ad : Nat → Nat) (L : AMl) (nL : Nat) (ls : Array Slot) : Prop := ls.size = nL ∧ lv_wf ls ∧ ∀ (i : Nat) (v : Value), L[i]? = some (some v) → ls[i]? = some (.val (am_rv ad v))
def am_lf (ad : Nat → Nat) (L : AMl) : List (Nat × Value) := (List.range L.length).filterMap (fun i => match L[i]? with
  | some (some v) => some (i, am_rv ad v)
  | _ => none)
theorem am_lf_mem {ad : Nat → Nat} {L : AMl} {q : Nat × Value} : q ∈ am_lf ad L ↔ ∃ v, L[q.1]? = some (some v) ∧ q.2 = am_rv ad v := by
  unfold am_lf
  rw [List.mem_filterMap]
  constructor
  · intro hq
    obtain ⟨i, -, hi⟩ := hq
    split at hi
    · rename_i v hv
      cases hi
      exact ⟨v, hv, rfl⟩
    · cases hi
  · intro hq
    obtain ⟨v, h1, h2⟩ := hq
    obtain ⟨i, w⟩ := q
    refine ⟨i, List.mem_range.mpr (List.getElem?_eq_some_iff.mp h1).1, ?_⟩
    dsimp only at h1 h2
    rw [h1, h2]
theorem am_LR_has {ad : Nat → Nat} {L : AMl} {nL : Nat} {ls : Array Slot} (h : am_LR ad L nL ls) : lv_has ls nL (am_lf ad L) := ⟨h.1, h.2.1, fun q hq => by
  obtain ⟨v, h1, h2⟩ := am_lf_mem.mp hq
  rw [h2]
  exact h.2.2 q.1 v h1⟩
theorem am_LR_st1 {ad : Nat → Nat} {L : AMl} {nL i : Nat} {w : Value} {ls' : Array Slot} (hk : am_kl L i = true) (h' : lv_has ls' nL ((i, am_rv ad w) :: (am_lf ad L).filter (fun q => !(q.1 == i) && !(q.1 + 1 == i && q.2.category == 2)))) : am_LR ad (L.set i (some w)) nL ls' := by
  refine ⟨h'.1, h'.2.1, fun j v hj => ?_⟩
  by_cases hji : j = i
  · subst hji
    obtain ⟨hl, hv⟩ := List.getElem?_eq_some_iff.mp hj
    rw [List.getElem_set_self] at hv
    cases hv
    exact h'.2.2 (j, am_rv ad w) List.mem_cons_self
  · rw [List.getElem?_set_ne (Ne.symm hji)] at hj
    refine h'.2.2 (j, am_rv ad v) (List.mem_cons_of_mem _ (List.mem_filter.mpr ⟨am_lf_mem.mpr ⟨v, hj, rfl⟩, ?_⟩))
    have h1 : (j == i) = false := by simp [hji]
    by_cases hj1 : j + 1 = i
    · subst hj1
      simp only [am_kl, hj] at hk
      have h2 : (v.category == 2) = false := by simpa using hk
      simp [h1, am_rv_cat, h2]
    · simp [h1, hj1]
theorem am_LR_st2 {ad : Nat → Nat} {L : AMl} {nL i : Nat} {w : Value} {ls' : Array Slot} (hk : am_kl L i = true) (h' : lv_has ls' nL ((i, am_rv ad w) :: (am_lf ad L).filter (fun q => !(q.1 == i) && (!(q.1 == i + 1) && !(q.1 + 1 == i && q.2.category == 2))))) : am_LR ad ((L.set i (some w)).set (i + 1) none) nL ls' := by
  refine ⟨h'.1, h'.2.1, fun j v hj => ?_⟩
  by_cases hj2 : j = i + 1
  · subst hj2
    obtain ⟨hl, hv⟩ := List.getElem?_eq_some_iff.mp hj
    rw [List.getElem_set_self] at hv
    cases hv
  · rw [List.getElem?_set_ne (Ne.symm hj2)] at hj
    by_cases hji : j = i
    · subst hji
      obtain ⟨hl, hv⟩ := List.getElem?_eq_some_iff.mp hj
      rw [List.getElem_set_self] at hv
      cases hv
      exact h'.2.2 (j, am_rv ad w) List.mem_cons_self
    · rw [List.getElem?_set_ne (Ne.symm hji)] at hj
      refine h'.2.2 (j, am_rv ad v) (List.mem_cons_of_mem _ (List.mem_filter.mpr ⟨am_lf_mem.mpr ⟨v, hj, rfl⟩, ?_⟩))
      have h1 : (j == i) = false := by simp [hji]
      have h3 : (j == i + 1) = false := by simp [hj2]
      by_cases hj1 : j + 1 = i
      · subst hj1
        simp only [am_kl, hj] at hk
        have h2 : (v.category == 2) = false := by simpa using hk
        simp [h1, h3, am_rv_cat, h2]
      · simp [h1, h3, hj1]
theorem am_LR_ext {ad ad' : Nat → Nat} {L : AMl} {n nL : Nat} {ls : Array Slot} (e : ∀ i, i < n ∨ i = am_SCR → ad' i = ad i) (hw : L.all (am_wfo n) = true) (h : am_LR ad L nL ls) : am_LR ad' L nL ls := ⟨h.1, h.2.1, fun i v hv => by
  have h1 : am_wfv n v = true := List.all_eq_true.mp hw (some v) (List.mem_of_getElem? hv)
  rw [am_rv_ext e h1]
  exact h.2.2 i v hv⟩
theorem am_map_ext {ad ad' : Nat → Nat} {S : List Value} {n : Nat} (e : ∀ i, i < n ∨ i = am_SCR → ad' i = ad i) (hw : S.all (am_wfv n) = true) : S.map (am_rv ad') = S.map (am_rv ad) := List.map_congr_left (fun v hv => am_rv_ext e (List.all_eq_true.mp hw v hv))
theorem am_sl_args (ad : Nat → Nat) : ∀ (as : List Value) (k i : Nat) (v : Value), (am_sl as)[i]? = some (some v) → (k + i, am_rv ad v) ∈ lv_args k (as.map (am_rv ad))
  | [], k, i, v, h => by simp [am_sl] at h
  | w :: t, k, i, v, h => by
    by_cases hc : w.category = 2
    · have h2 : am_sl (w :: t) = some w :: none :: am_sl t := by simp [am_sl, hc]
      rw [h2] at h
      show _ ∈ (k, am_rv ad w) :: lv_args (if (am_rv ad w).category = 2 then k + 2 else k + 1) (t.map (am_rv ad))
      rw [am_rv_cat, if_pos hc]
      match i, h with
      | 0, h => cases h; exact List.mem_cons_self
      | 1, h => cases h
      | i + 2, h =>
        have := am_sl_args ad t (k + 2) i v h
        rw [show k + 2 + i = k + (i + 2) by omega] at this
        exact List.mem_cons_of_mem _ this
    · have h2 : am_sl (w :: t) = some w :: am_sl t := by
        have : Nat.beq w.category 2 = false := by
          cases h3 : Nat.beq w.category 2 with
          | false => rfl
          | true => exact absurd (Nat.eq_of_beq_eq_true h3) hc
        simp [am_sl, this]
      rw [h2] at h
      show _ ∈ (k, am_rv ad w) :: lv_args (if (am_rv ad w).category = 2 then k + 2 else k + 1) (t.map (am_rv ad))
      rw [am_rv_cat, if_neg hc]
      match i, h with
      | 0, h => cases h; exact List.mem_cons_self
      | i + 1, h =>
        have := am_sl_args ad t (k + 1) i v h
        rw [show k + 1 + i = k + (i + 1) by omega] at this
        exact List.mem_cons_of_mem _ this
theorem am_sl_len (ad : Nat → Nat) : ∀ as : List Value, (lg_sl (as.map (am_rv ad))).length = (am_sl as).length
  | [] => rfl
  | w :: t => by
    have ih := am_sl_len ad t
    by_cases hc : w.category = 2
    · simp [lg_sl, am_sl, am_rv_cat, hc] at ih ⊢; omega
    · have h3 : Nat.beq w.category 2 = false := by
        cases h3 : Nat.beq w.category 2 with
        | false => rfl
        | true => exact absurd (Nat.eq_of_beq_eq_true h3) hc
      simp [lg_sl, am_sl, am_rv_cat, hc, h3] at ih ⊢; omega
theorem am_LR_ent {ad : Nat → Nat} {M : AMinfo} {as : List Value} (hn : (am_sl as).length ≤ am_nL M) : am_LR ad (am_ent M as) (am_nL M) ((lg_sl (as.map (am_rv ad)) ++ List.replicate (am_nL M - (lg_sl (as.map (am_rv ad))).length) Slot.unset).toArray) := by
  have h := lv_entry (as.map (am_rv ad)) (n := am_nL M) (by rw [am_sl_len]; exact hn)
  refine ⟨h.1, h.2.1, fun i v hv => ?_⟩
  unfold am_ent at hv
  by_cases hi : i < (am_sl as).length
  · rw [List.getElem?_append_left hi] at hv
    have := am_sl_args ad as 0 i v hv
    rw [Nat.zero_add] at this
    exact h.2.2 _ this
  · rw [List.getElem?_append_right (by omega)] at hv
    have := List.eq_of_mem_replicate (List.mem_of_getElem? hv)
    cases this
theorem am_fnd_mem : ∀ {l : List AMrow} {n : Nat} {d : AMrd}, am_fnd l n = some d → (n, d) ∈ l
  | [], n, d, h => by cases h
  | r :: t, n, d, h => by
    unfold am_fnd at h
    cases hb : Nat.beq r.1 n with
    | true =>
      rw [hb] at h
      have h1 : r.2 = d := Option.some.inj h
      have h2 := Nat.eq_of_beq_eq_true hb
      subst h1; subst h2
      exact List.mem_cons_self
    | false =>
      rw [hb] at h
      exact List.mem_cons_of_mem _ (am_fnd_mem h)
theorem am_sw_at : ∀ (tab : List (Int32 × Nat)) (lo : Int) (x : Int32) (d : Nat), (∀ (i : Nat) (q : Int32 × Nat), tab[i]? = some q → q.1.toInt = lo + i) → ((x.toInt < lo ∨ lo + tab.length ≤ x.toInt) → am_sw tab x d = d) ∧ (∀ (j : Nat) (q : Int32 × Nat), tab[j]? = some q → x.toInt = lo + j → am_sw tab x d = q.2)
  | [], lo, x, d, _ => ⟨fun _ => rfl, fun j q h => by cases h⟩
  | q0 :: t, lo, x, d, h => by
    have h0 : q0.1.toInt = lo := by have := h 0 q0 rfl; simpa using this
    have ih := am_sw_at t (lo + 1) x d (fun i q hq => by have := h (i + 1) q hq; push_cast at this; omega)
    refine ⟨fun hx => ?_, fun j q hj hx => ?_⟩
    · show (if x = q0.1 then q0.2 else am_sw t x d) = d
      rw [if_neg (fun z => by rw [z, h0] at hx; simp at hx; omega)]
      exact ih.1 (by simp at hx; omega)
    · show (if x = q0.1 then q0.2 else am_sw t x d) = q.2
      match j, hj with
      | 0, hj => cases hj; rw [if_pos (Int32.toInt_inj.mp (by rw [h0]; simpa using hx))]
      | j + 1, hj =>
        rw [if_neg (fun z => by rw [z, h0] at hx; push_cast at hx; omega)]
        exact ih.2 j q hj (by push_cast at hx; omega)
theorem am_okf_n {ty : FieldType} {w : Value} {ad : Nat → Nat} (h : am_okf ty w = true) : narrow ty (am_rv ad w) = am_rv ad w ∧ fits ty (am_rv ad w) = true := by
  cases ty <;> cases w <;> first | (cases h; done) | exact ⟨rfl, rfl⟩
theorem am_rv_def (ad : Nat → Nat) (t : FieldType) : am_rv ad (defaultValue t) = defaultValue t := by cases t <;> rfl
theorem am_df_map (ad : Nat → Nat) (c : Nat) : (am_df c).map (am_rv ad) = am_df c := by
  unfold am_df
  rw [List.map_map]
  exact List.map_congr_left (fun k _ => am_rv_def ad _)
def am_NW (s : State) : Prop := ∀ (own : String) (idx : Nat) (x : MethodName) (host : String), Cond.methodLinkNest own idx x host ∈ lw_tbl → va_Nw (.methodLinkNest own idx x host) s
def am_Cx (M : AMinfo) (p : Program) (R : Room) (s : State) (m : MethodId) (args : Array Value) (meth : Method) (c : Code) (A : Nat → Prop) (G : ClassId × ClassId) (D : va_G) : Prop :=
  M ∈ am_mt ∧ p.tables.exec = Jvm.exec ∧ c.code = am_by M ∧ c.maxLocals = am_nL M ∧ meth.sig.returnType = am_rt M ∧ meth.locks = false ∧ s.vm.findClass (am_R (am_cls M)) = some m.cls ∧ (∀ w ∈ am_TB, w.before args s = true) ∧ ((am_y M).name = "<init>" → meth.name = "<init>") ∧ (∀ q, s.heap.size ≤ q → A q) ∧ va_K D vwCl [(G.1, .int), (G.2, .boolean)] s ∧ am_NW s ∧ am_fr M ≤ R.frames ∧ am_lo M ≤ R.locals
