section AmSnd
variable {p : Program} {l : Launch} {e : Env} {R : Room} {s : State} {m : MethodId} {args : Array Value} {below : List Frame} {meth : Method} {c : Code} {Q : State → Prop}
set_option maxRecDepth 100000 in
set_option maxHeartbeats 40000000 in
theorem am_snd {X : AMx} {M : AMinfo} {G : ClassId × ClassId} {D : va_G} {A : Nat → Prop} (C : am_Cx M p R s m args meth c A G D) {pc : Nat} {L : AMl} {S : List Value} {h : List AMc} {st : AMst} (hst : am_stp X M pc L S h = some st) {ad : Nat → Nat} {ls : Array Slot} {H : Heap} {locs : List Loc} {cells slots : Nat} (hP : va_P D vwCl (am_cW G ad h) H) (hD : va_D A (am_cW G ad h)) (hS : va_S A s.heap H locs) (hL : am_LR ad L (am_nL M) ls)
    (hX : am_lw M = true → va_X (ad am_SCR) X.1 X.2 s s.heap ∧ ad am_SCR < s.heap.size ∧ ¬ A (ad am_SCR)) (hc : cells + (st.2.2.2.length - h.length) ≤ R.cells) (hs : slots + (am_sz st.2.2.2 - am_sz h) ≤ R.slots)
    (kk : ∀ (H1 : Heap) (locs1 : List Loc) (ls1 : Array Slot) (ad1 : Nat → Nat) (c1 s1 : Nat), c1 + h.length = cells + st.2.2.2.length → s1 + am_sz h = slots + am_sz st.2.2.2 → va_P D vwCl (am_cW G ad1 st.2.2.2) H1 → va_D A (am_cW G ad1 st.2.2.2) → va_S A s.heap H1 locs1 → am_LR ad1 st.2.1 (am_nL M) ls1 → (∀ i, i < h.length ∨ st.2.2.2.length ≤ i → ad1 i = ad i) → (h.length = st.2.2.2.length ∨ st.2.2.2.length ≤ am_SCR) → h.length ≤ st.2.2.2.length → am_sz h ≤ am_sz st.2.2.2 →
      W p l e R s m args below meth c H1 locs1 c1 s1 Q (F0 m st.1 ls1 (st.2.2.1.map (am_rv ad1)))) :
    W p l e R s m args below meth c H locs cells slots Q (F0 m pc ls (S.map (am_rv ad))) := by
  obtain ⟨hM, hx, hb, hml, hr, hlk, hown, hts, hin, hA, hK, hN, hfr, hlo⟩ := C
  have hce : cells ≤ R.cells := by omega
  have hse : slots ≤ R.slots := by omega
  have k0 : ∀ (pc' : Nat) (L' : AMl) (S' : List Value) (ls' : Array Slot), st = (pc', L', S', h) → am_LR ad L' (am_nL M) ls' → W p l e R s m args below meth c H locs cells slots Q (F0 m pc' ls' (S'.map (am_rv ad))) := by
    intro pc' L' S' ls' e1 hL'
    subst e1
    exact kk H locs ls' ad cells slots rfl rfl hP hD hS hL' (fun _ _ => rfl) (Or.inl rfl) (Nat.le_refl _) (Nat.le_refl _)
  have k1 : ∀ (pc' : Nat) (S' : List Value) (o : Nat) (c0 c' : AMc) (H1 : Heap) (locs1 : List Loc), h[o]? = some c0 → am_sz1 c' = am_sz1 c0 → st = (pc', L, S', h.set o c') → va_P D vwCl ((am_cW G ad h).set o (ad o, am_cC G ad c')) H1 → va_D A ((am_cW G ad h).set o (ad o, am_cC G ad c')) → va_S A s.heap H1 locs1 → W p l e R s m args below meth c H1 locs1 cells slots Q (F0 m pc' ls (S'.map (am_rv ad))) := by
    intro pc' S' o c0 c' H1 locs1 ho hz e1 hP1 hD1 hS1
    subst e1
    rw [am_cW_set] at hP1 hD1
    have e2 : (h.set o c').length = h.length := List.length_set
    have e3 : am_sz (h.set o c') = am_sz h := am_sz_set ho hz
    exact kk H1 locs1 ls ad cells slots (by dsimp only; rw [e2]) (by dsimp only; rw [e3]) hP1 hD1 hS1 hL (fun _ _ => rfl) (Or.inl e2.symm) (by dsimp only; rw [e2]; exact Nat.le_refl _) (by dsimp only; rw [e3]; exact Nat.le_refl _)
  unfold am_stp at hst
  cases hf : am_fnd (am_rows M) pc with
  | none => rw [hf] at hst; cases hst
  | some rd =>
    rw [hf] at hst
    have hm := am_fnd_mem hf
    have hok := List.all_eq_true.mp (am_mt_ok M hM).1 _ hm
    have how := am_okws_mem (am_mt_ok M hM).2.1 _ hm
    obtain ⟨ins, len, a, b, v, tab, t⟩ := rd
    dsimp only at hst
    unfold am_okw am_word at how
    dsimp only at how
    simp only [am_ok, Bool.and_eq_true, decide_eq_true_eq] at hok
    obtain ⟨hdg, hok⟩ := hok
    cases ins with
    | iconst n =>
      simp only [Bool.and_eq_true, decide_eq_true_eq] at hok hst
      obtain ⟨rfl, hl⟩ := hok
      obtain rfl := Nat.eq_of_beq_eq_true hl
      exact lv_iconst hx hb hdg rfl (k0 _ _ _ _ (Option.some.inj hst).symm hL)
    | bipush n =>
      simp only [Bool.and_eq_true, decide_eq_true_eq] at hok hst
      obtain ⟨rfl, hl⟩ := hok
      obtain rfl := Nat.eq_of_beq_eq_true hl
      exact lv_bipush hx hb hdg rfl (k0 _ _ _ _ (Option.some.inj hst).symm hL)
    | sipush n =>
      simp only [Bool.and_eq_true, decide_eq_true_eq] at hok hst
      obtain ⟨rfl, hl⟩ := hok
      obtain rfl := Nat.eq_of_beq_eq_true hl
      exact lv_sipush hx hb hdg rfl (k0 _ _ _ _ (Option.some.inj hst).symm hL)
    | lconst n =>
      simp only [Bool.and_eq_true, decide_eq_true_eq] at hok hst
      obtain ⟨rfl, hl⟩ := hok
      obtain rfl := Nat.eq_of_beq_eq_true hl
      exact lv_lconst hx hb hdg rfl (k0 _ _ _ _ (Option.some.inj hst).symm hL)
    | ldc n =>
      cases v with
      | int x =>
        simp only [Bool.and_eq_true] at hok hst
        obtain rfl := Nat.eq_of_beq_eq_true hok.2
        exact lv_ldc hx hb hown (hts _ (am_TB_of t how rfl)) hdg (k0 _ _ _ _ (Option.some.inj hst).symm hL)
      | _ => simp at hok
    | ldc_w n =>
      cases v with
      | int x =>
        simp only [Bool.and_eq_true] at hok hst
        obtain rfl := Nat.eq_of_beq_eq_true hok.2
        exact lv_ldcw hx hb hown (hts _ (am_TB_of t how rfl)) hdg (k0 _ _ _ _ (Option.some.inj hst).symm hL)
      | _ => simp at hok
    | ldc2_w n =>
      cases v with
      | long x =>
        simp only [Bool.and_eq_true] at hok hst
        obtain rfl := Nat.eq_of_beq_eq_true hok.2
        exact lv_ldc2 hx hb hown (hts _ (am_TB_of t how rfl)) hdg (k0 _ _ _ _ (Option.some.inj hst).symm hL)
      | _ => simp at hok
    | iload i =>
      simp only [Bool.and_eq_true] at hok hst
      obtain rfl := Nat.eq_of_beq_eq_true hok.1
      obtain rfl := Nat.eq_of_beq_eq_true hok.2
      split at hst
      · rename_i x hv
        exact lv_iload hx hb hdg (hL.2.2 _ _ hv) (k0 _ _ _ _ (Option.some.inj hst).symm hL)
      · cases hst
    | lload i =>
      simp only [Bool.and_eq_true] at hok hst
      obtain rfl := Nat.eq_of_beq_eq_true hok.1
      obtain rfl := Nat.eq_of_beq_eq_true hok.2
      split at hst
      · rename_i x hv
        exact lv_lload hx hb hdg (hL.2.2 _ _ hv) (k0 _ _ _ _ (Option.some.inj hst).symm hL)
      · cases hst
    | iload_n i =>
      simp only [Bool.and_eq_true] at hok hst
      obtain rfl := Nat.eq_of_beq_eq_true hok.1
      obtain rfl := Nat.eq_of_beq_eq_true hok.2
      split at hst
      · rename_i x hv
        exact lv_iload_n hx hb hdg rfl (hL.2.2 _ _ hv) (k0 _ _ _ _ (Option.some.inj hst).symm hL)
      · cases hst
    | lload_n i =>
      simp only [Bool.and_eq_true] at hok hst
      obtain rfl := Nat.eq_of_beq_eq_true hok.1
      obtain rfl := Nat.eq_of_beq_eq_true hok.2
      split at hst
      · rename_i x hv
        exact lv_lload_n hx hb hdg rfl (hL.2.2 _ _ hv) (k0 _ _ _ _ (Option.some.inj hst).symm hL)
      · cases hst
    | aload_n i =>
      simp only [Bool.and_eq_true] at hok hst
      obtain rfl := Nat.eq_of_beq_eq_true hok.1
      obtain rfl := Nat.eq_of_beq_eq_true hok.2
      split at hst
      · rename_i x hv
        exact lv_aload_n hx hb hdg rfl (hL.2.2 _ _ hv) (k0 _ _ _ _ (Option.some.inj hst).symm hL)
      · cases hst
    | istore i =>
      simp only [Bool.and_eq_true] at hok hst
      obtain rfl := Nat.eq_of_beq_eq_true hok.1
      obtain rfl := Nat.eq_of_beq_eq_true hok.2.2
      have hlt : a < am_nL M := Nat.le_of_ble_eq_true hok.2.1
      split at hst
      · rename_i x r
        cases hkl : am_kl L a with
        | false => rw [hkl] at hst; cases hst
        | true =>
          rw [hkl] at hst
          exact lv_istore hx hb hdg (am_LR_has hL) hlt rfl (fun ls' h' => k0 _ _ _ _ (Option.some.inj hst).symm (am_LR_st1 (w := .int x) hkl h'))
      · cases hst
    | istore_n i =>
      simp only [Bool.and_eq_true] at hok hst
      obtain rfl := Nat.eq_of_beq_eq_true hok.1
      obtain rfl := Nat.eq_of_beq_eq_true hok.2.2
      have hlt : (i : Nat) < am_nL M := Nat.le_of_ble_eq_true hok.2.1
      split at hst
      · rename_i x r
        cases hkl : am_kl L (i : Nat) with
        | false => rw [hkl] at hst; cases hst
        | true =>
          rw [hkl] at hst
          exact lv_istore_n hx hb hdg rfl (am_LR_has hL) hlt rfl (fun ls' h' => k0 _ _ _ _ (Option.some.inj hst).symm (am_LR_st1 (w := .int x) hkl h'))
      · cases hst
    | astore_n i =>
      simp only [Bool.and_eq_true] at hok hst
      obtain rfl := Nat.eq_of_beq_eq_true hok.1
      obtain rfl := Nat.eq_of_beq_eq_true hok.2.2
      have hlt : (i : Nat) < am_nL M := Nat.le_of_ble_eq_true hok.2.1
      split at hst
      · rename_i x r
        cases hkl : am_kl L (i : Nat) with
        | false => rw [hkl] at hst; cases hst
        | true =>
          rw [hkl] at hst
          exact lv_astore_n hx hb hdg rfl (am_LR_has hL) hlt rfl (fun ls' h' => k0 _ _ _ _ (Option.some.inj hst).symm (am_LR_st1 (w := .ref x) hkl h'))
      · cases hst
    | lstore i =>
      simp only [Bool.and_eq_true] at hok hst
      obtain rfl := Nat.eq_of_beq_eq_true hok.1
      obtain rfl := Nat.eq_of_beq_eq_true hok.2.2
      have hlt : a + 1 < am_nL M := Nat.le_of_ble_eq_true hok.2.1
      split at hst
      · rename_i x r
        cases hkl : am_kl L a with
        | false => rw [hkl] at hst; cases hst
        | true =>
          rw [hkl] at hst
          exact lv_lstore hx hb hdg (am_LR_has hL) hlt rfl (fun ls' h' => k0 _ _ _ _ (Option.some.inj hst).symm (am_LR_st2 (w := .long x) hkl h'))
      · cases hst
    | iinc i n =>
      simp only [Bool.and_eq_true, decide_eq_true_eq] at hok hst
      obtain ⟨h1, h2, rfl, h4⟩ := hok
      obtain rfl := Nat.eq_of_beq_eq_true h1
      obtain rfl := Nat.eq_of_beq_eq_true h4
      have hlt : a < am_nL M := Nat.le_of_ble_eq_true h2
      split at hst
      · rename_i x hv
        cases hkl : am_kl L a with
        | false => rw [hkl] at hst; cases hst
        | true =>
          rw [hkl] at hst
          obtain ⟨k, hk⟩ := List.getElem?_of_mem (am_lf_mem (ad := ad) (q := (a, .int x)).mpr ⟨_, hv, rfl⟩)
          exact lv_iinc hx hb hdg (am_LR_has hL) hk rfl hlt rfl (fun ls' h' => k0 _ _ _ _ (Option.some.inj hst).symm (am_LR_st1 (w := .int (x + Int32.ofInt n)) hkl h'))
      · cases hst
    | iadd =>
      simp only at hst
      obtain rfl := Nat.eq_of_beq_eq_true hok
      split at hst
      · exact lv_iadd hx hb hdg (k0 _ _ _ _ (Option.some.inj hst).symm hL)
      · cases hst
    | isub =>
      simp only at hst
      obtain rfl := Nat.eq_of_beq_eq_true hok
      split at hst
      · exact lv_isub hx hb hdg (k0 _ _ _ _ (Option.some.inj hst).symm hL)
      · cases hst
    | imul =>
      simp only at hst
      obtain rfl := Nat.eq_of_beq_eq_true hok
      split at hst
      · exact lv_imul hx hb hdg (k0 _ _ _ _ (Option.some.inj hst).symm hL)
      · cases hst
    | iand =>
      simp only at hst
      obtain rfl := Nat.eq_of_beq_eq_true hok
      split at hst
      · exact lv_iand hx hb hdg (k0 _ _ _ _ (Option.some.inj hst).symm hL)
      · cases hst
    | ior =>
      simp only at hst
      obtain rfl := Nat.eq_of_beq_eq_true hok
      split at hst
      · exact lv_ior hx hb hdg (k0 _ _ _ _ (Option.some.inj hst).symm hL)
      · cases hst
    | ixor =>
      simp only at hst
      obtain rfl := Nat.eq_of_beq_eq_true hok
      split at hst
      · exact lv_ixor hx hb hdg (k0 _ _ _ _ (Option.some.inj hst).symm hL)
      · cases hst
    | ishl =>
      simp only at hst
      obtain rfl := Nat.eq_of_beq_eq_true hok
      split at hst
      · exact lv_ishl hx hb hdg (k0 _ _ _ _ (Option.some.inj hst).symm hL)
      · cases hst
    | ishr =>
      simp only at hst
      obtain rfl := Nat.eq_of_beq_eq_true hok
      split at hst
      · exact lv_ishr hx hb hdg (k0 _ _ _ _ (Option.some.inj hst).symm hL)
      · cases hst
    | lmul =>
      simp only at hst
      obtain rfl := Nat.eq_of_beq_eq_true hok
      split at hst
      · exact lv_lmul hx hb hdg (k0 _ _ _ _ (Option.some.inj hst).symm hL)
      · cases hst
    | idiv =>
      simp only at hst
      obtain rfl := Nat.eq_of_beq_eq_true hok
      split at hst
      · rename_i y x r
        by_cases hy : y = 0
        · rw [if_pos hy] at hst; cases hst
        · rw [if_neg hy] at hst
          exact lv_idiv hx hb hdg hy (k0 _ _ _ _ (Option.some.inj hst).symm hL)
      · cases hst
    | irem =>
      simp only at hst
      obtain rfl := Nat.eq_of_beq_eq_true hok
      split at hst
      · rename_i y x r
        by_cases hy : y = 0
        · rw [if_pos hy] at hst; cases hst
        · rw [if_neg hy] at hst
          exact lv_irem hx hb hdg hy (k0 _ _ _ _ (Option.some.inj hst).symm hL)
      · cases hst
    | ldiv =>
      simp only at hst
      obtain rfl := Nat.eq_of_beq_eq_true hok
      split at hst
      · rename_i y x r
        by_cases hy : y = 0
        · rw [if_pos hy] at hst; cases hst
        · rw [if_neg hy] at hst
          exact lv_ldiv hx hb hdg hy (k0 _ _ _ _ (Option.some.inj hst).symm hL)
      · cases hst
    | lrem =>
      simp only at hst
      obtain rfl := Nat.eq_of_beq_eq_true hok
      split at hst
      · rename_i y x r
        by_cases hy : y = 0
        · rw [if_pos hy] at hst; cases hst
        · rw [if_neg hy] at hst
          exact lv_lrem hx hb hdg hy (k0 _ _ _ _ (Option.some.inj hst).symm hL)
      · cases hst
    | iushr =>
      simp only at hst
      obtain rfl := Nat.eq_of_beq_eq_true hok
      split at hst
      · exact lv_iushr hx hb hdg rfl (k0 _ _ _ _ (Option.some.inj hst).symm hL)
      · cases hst
    | ineg =>
      simp only at hst
      obtain rfl := Nat.eq_of_beq_eq_true hok
      split at hst
      · exact lv_ineg hx hb hdg (k0 _ _ _ _ (Option.some.inj hst).symm hL)
      · cases hst
    | i2l =>
      simp only at hst
      obtain rfl := Nat.eq_of_beq_eq_true hok
      split at hst
      · exact lv_i2l hx hb hdg rfl (k0 _ _ _ _ (Option.some.inj hst).symm hL)
      · cases hst
    | lcmp =>
      simp only at hst
      obtain rfl := Nat.eq_of_beq_eq_true hok
      split at hst
      · exact W.lcmp hx hb hdg (k0 _ _ _ _ (Option.some.inj hst).symm hL)
      · cases hst
    | dup =>
      simp only at hst
      obtain rfl := Nat.eq_of_beq_eq_true hok
      split at hst
      · rename_i w r
        cases hcw : Nat.beq w.category 1 with
        | false => rw [hcw] at hst; cases hst
        | true =>
          rw [hcw] at hst
          exact lv_dup hx hb hdg (by rw [am_rv_cat]; exact Nat.eq_of_beq_eq_true hcw) (k0 _ _ _ _ (Option.some.inj hst).symm hL)
      · cases hst
    | pop =>
      simp only at hst
      obtain rfl := Nat.eq_of_beq_eq_true hok
      split at hst
      · rename_i w r
        cases hcw : Nat.beq w.category 1 with
        | false => rw [hcw] at hst; cases hst
        | true =>
          rw [hcw] at hst
          exact lv_pop hx hb hdg (by rw [am_rv_cat]; exact Nat.eq_of_beq_eq_true hcw) (k0 _ _ _ _ (Option.some.inj hst).symm hL)
      · cases hst
    | dup2 =>
      simp only at hst
      obtain rfl := Nat.eq_of_beq_eq_true hok
      split at hst
      · rename_i w u r
        cases hcw : Nat.beq w.category 1 with
        | false => rw [hcw] at hst; cases hst
        | true =>
          rw [hcw] at hst
          cases hcu : Nat.beq u.category 1 with
          | false => rw [hcu] at hst; cases hst
          | true =>
            rw [hcu] at hst
            exact lv_dup2_11 hx hb hdg (by rw [am_rv_cat]; exact Nat.eq_of_beq_eq_true hcw) (by rw [am_rv_cat]; exact Nat.eq_of_beq_eq_true hcu) (k0 _ _ _ _ (Option.some.inj hst).symm hL)
      · cases hst
    | goto off =>
      simp only [Bool.and_eq_true, decide_eq_true_eq] at hok hst
      obtain rfl := Nat.eq_of_beq_eq_true hok.2
      exact lv_goto hx hb hdg hok.1 (k0 _ _ _ _ (Option.some.inj hst).symm hL)
    | ifCond cnd off =>
      simp only [Bool.and_eq_true, decide_eq_true_eq] at hok hst
      obtain rfl := Nat.eq_of_beq_eq_true hok.2
      split at hst
      · rename_i x r
        cases cnd with
        | eq => exact lv_if_eq hx hb hdg hok.1 (fun hcnd => by
            have := k0 _ _ r ls (Option.some.inj hst).symm hL
            rw [if_pos hcnd] at this
            exact this) (fun hcnd => by
            have := k0 _ _ r ls (Option.some.inj hst).symm hL
            rw [if_neg hcnd] at this
            exact this)
        | ne => exact lv_if_ne hx hb hdg hok.1 (fun hcnd => by
            have := k0 _ _ r ls (Option.some.inj hst).symm hL
            rw [if_neg hcnd] at this
            exact this) (fun hcnd => by
            have := k0 _ _ r ls (Option.some.inj hst).symm hL
            rw [if_pos hcnd] at this
            exact this)
        | lt => exact lv_if_lt hx hb hdg hok.1 (fun hcnd => by
            have := k0 _ _ r ls (Option.some.inj hst).symm hL
            rw [if_pos hcnd] at this
            exact this) (fun hcnd => by
            have := k0 _ _ r ls (Option.some.inj hst).symm hL
            rw [if_neg hcnd] at this
            exact this)
        | ge => exact lv_if_ge hx hb hdg hok.1 (fun hcnd => by
            have := k0 _ _ r ls (Option.some.inj hst).symm hL
            rw [if_pos hcnd] at this
            exact this) (fun hcnd => by
            have := k0 _ _ r ls (Option.some.inj hst).symm hL
            rw [if_neg hcnd] at this
            exact this)
        | gt => exact lv_if_gt hx hb hdg hok.1 (fun hcnd => by
            have := k0 _ _ r ls (Option.some.inj hst).symm hL
            rw [if_pos hcnd] at this
            exact this) (fun hcnd => by
            have := k0 _ _ r ls (Option.some.inj hst).symm hL
            rw [if_neg hcnd] at this
            exact this)
        | le => exact lv_if_le hx hb hdg hok.1 (fun hcnd => by
            have := k0 _ _ r ls (Option.some.inj hst).symm hL
            rw [if_pos hcnd] at this
            exact this) (fun hcnd => by
            have := k0 _ _ r ls (Option.some.inj hst).symm hL
            rw [if_neg hcnd] at this
            exact this)
      · cases hst
    | if_icmp cnd off =>
      simp only [Bool.and_eq_true, decide_eq_true_eq] at hok hst
      obtain rfl := Nat.eq_of_beq_eq_true hok.2
      split at hst
      · rename_i y x r
        cases cnd with
        | eq => exact lv_icmp_eq hx hb hdg hok.1 (fun hcnd => by
            have := k0 _ _ r ls (Option.some.inj hst).symm hL
            rw [if_pos hcnd] at this
            exact this) (fun hcnd => by
            have := k0 _ _ r ls (Option.some.inj hst).symm hL
            rw [if_neg hcnd] at this
            exact this)
        | ne => exact lv_icmp_ne hx hb hdg hok.1 (fun hcnd => by
            have := k0 _ _ r ls (Option.some.inj hst).symm hL
            rw [if_neg hcnd] at this
            exact this) (fun hcnd => by
            have := k0 _ _ r ls (Option.some.inj hst).symm hL
            rw [if_pos hcnd] at this
            exact this)
        | lt => exact lv_icmp_lt hx hb hdg hok.1 (fun hcnd => by
            have := k0 _ _ r ls (Option.some.inj hst).symm hL
            rw [if_pos hcnd] at this
            exact this) (fun hcnd => by
            have := k0 _ _ r ls (Option.some.inj hst).symm hL
            rw [if_neg hcnd] at this
            exact this)
        | ge => exact lv_icmp_ge hx hb hdg hok.1 (fun hcnd => by
            have := k0 _ _ r ls (Option.some.inj hst).symm hL
            rw [if_pos hcnd] at this
            exact this) (fun hcnd => by
            have := k0 _ _ r ls (Option.some.inj hst).symm hL
            rw [if_neg hcnd] at this
            exact this)
        | gt => exact lv_icmp_gt hx hb hdg hok.1 (fun hcnd => by
            have := k0 _ _ r ls (Option.some.inj hst).symm hL
            rw [if_pos hcnd] at this
            exact this) (fun hcnd => by
            have := k0 _ _ r ls (Option.some.inj hst).symm hL
            rw [if_neg hcnd] at this
            exact this)
        | le => exact lv_icmp_le hx hb hdg hok.1 (fun hcnd => by
            have := k0 _ _ r ls (Option.some.inj hst).symm hL
            rw [if_pos hcnd] at this
            exact this) (fun hcnd => by
            have := k0 _ _ r ls (Option.some.inj hst).symm hL
            rw [if_neg hcnd] at this
            exact this)
      · cases hst
    | tableswitch d lo hi offs =>
      simp only [Bool.and_eq_true, decide_eq_true_eq] at hok hst
      obtain ⟨h1, h2, h3⟩ := hok
      split at hst
      · rename_i x r
        have h4 : ∀ (i : Nat) (q : Int32 × Nat), tab[i]? = some q → q.1.toInt = lo + i ∧ ∃ o, offs[i]? = some o ∧ (pc : Int) + o = (q.2 : Int) := by
          intro i q hq
          have hi2 := (List.getElem?_eq_some_iff.mp hq).1
          have h5 := List.all_eq_true.mp h3 i (List.mem_range.mpr hi2)
          simp only [hq] at h5
          cases ho : offs[i]? with
          | none => simp only [ho] at h5; cases h5
          | some o =>
            simp only [ho, Bool.and_eq_true, decide_eq_true_eq] at h5
            exact ⟨h5.1, o, rfl, h5.2⟩
        have h6 := am_sw_at tab lo x b (fun i q hq => (h4 i q hq).1)
        by_cases hin2 : x.toInt < lo ∨ hi < x.toInt
        · have h7 := h6.1 (by omega)
          have := k0 _ _ r ls (Option.some.inj hst).symm hL
          rw [h7] at this
          exact lv_tableOut hx hb hdg hin2 h1 this
        · have hj : (x.toInt - lo).toNat < tab.length := by omega
          obtain ⟨e1, o, e2, e3⟩ := h4 (x.toInt - lo).toNat _ (List.getElem?_eq_getElem hj)
          have h7 := h6.2 (x.toInt - lo).toNat _ (List.getElem?_eq_getElem hj) (by omega)
          have := k0 _ _ r ls (Option.some.inj hst).symm hL
          rw [h7] at this
          exact lv_tableIn hx hb hdg (by omega) (by omega) e2 e3 this
      · cases hst
    | getfield idx =>
      simp only [Bool.and_eq_true] at hok hst
      obtain ⟨h1, h2, h3⟩ := hok
      obtain rfl := Nat.eq_of_beq_eq_true h3
      have ha : a < 7 := Nat.le_of_ble_eq_true h1
      have hb2 : b < am_N a := Nat.le_of_ble_eq_true h2
      split at hst
      · rename_i o r
        split at hst
        · rename_i ci fs ho
          cases hci : Nat.beq ci a with
          | false => rw [hci] at hst; cases hst
          | true =>
            rw [hci] at hst
            obtain rfl := Nat.eq_of_beq_eq_true hci
            simp only [cond_true] at hst
            split at hst
            · rename_i w hw
              exact va_get (D := D) hx hb hts (am_cl_in ci ha) hown hK hP o (am_cW_get ho) (am_cl_at ci ha) b hb2 (hts _ (am_TB_of t how rfl)) (fun _ h9 => h9) (v := am_rv ad w) (by rw [List.getElem?_map, hw]; rfl) hdg (k0 _ _ _ _ (Option.some.inj hst).symm hL)
            · cases hst
        · cases hst
      · cases hst
    | putfield idx =>
      simp only [Bool.and_eq_true] at hok hst
      obtain ⟨h1, h2, h3, h4⟩ := hok
      obtain rfl := Nat.eq_of_beq_eq_true h3
      have ha : a < 7 := Nat.le_of_ble_eq_true h1
      have hb2 : b < am_N a := Nat.le_of_ble_eq_true h2
      split at hst
      · rename_i w o r
        split at hst
        · rename_i ci fs ho
          cases hco : Nat.beq ci a && (Nat.blt b fs.length && am_okf (am_ty a b) w) with
          | false => rw [hco] at hst; cases hst
          | true =>
            rw [hco] at hst
            simp only [Bool.and_eq_true] at hco
            obtain ⟨c1, c2, c3⟩ := hco
            obtain rfl := Nat.eq_of_beq_eq_true c1
            have hlf : b < fs.length := Nat.le_of_ble_eq_true c2
            obtain ⟨n1, n2⟩ := am_okf_n (ad := ad) c3
            have hst2 := (Option.some.inj hst).symm
            have hset : (fs.map (am_rv ad)).set b (am_rv ad w) = (fs.set b w).map (am_rv ad) := List.map_set.symm
            cases hfi : (am_T ci b).2.2.2 with
            | false =>
              refine va_put (D := D) hx hb hts (am_cl_in ci ha) (am_ty ci) (am_cl_ty ci ha) (am_cl_nm ci ha) hown hK hP hD hS o (am_cW_get ho) (am_cl_at ci ha) b hb2 (hts _ (am_TB_of t how rfl)) (fun _ h9 => h9) hfi (am_cl_ty ci ha b hb2) n1 n2 (by rw [List.length_map]; exact hlf) hdg (fun H1 locs1 hP1 hD1 hS1 => ?_)
              rw [hset] at hP1 hD1
              exact k1 _ _ o _ (.inr (ci, fs.set b w)) H1 locs1 ho (by show (fs.set b w).length = fs.length; exact List.length_set) hst2 hP1 hD1 hS1
            | true =>
              rw [hfi] at h4
              simp only [Bool.not_true, Bool.false_or, Bool.and_eq_true, decide_eq_true_eq] at h4
              refine va_putF (D := D) hx hb hts (am_cl_in ci ha) (am_ty ci) (am_cl_ty ci ha) (am_cl_nm ci ha) hown hK hP hD hS o (am_cW_get ho) (am_cl_at ci ha) b hb2 (hts _ (am_TB_of t how rfl)) (fun _ h9 => h9) hfi (hin h4.1) h4.2 (am_cl_ty ci ha b hb2) n1 n2 (by rw [List.length_map]; exact hlf) hdg (fun H1 locs1 hP1 hD1 hS1 => ?_)
              rw [hset] at hP1 hD1
              exact k1 _ _ o _ (.inr (ci, fs.set b w)) H1 locs1 ho (by show (fs.set b w).length = fs.length; exact List.length_set) hst2 hP1 hD1 hS1
        · cases hst
      · cases hst
    | arraylength =>
      simp only at hst
      obtain rfl := Nat.eq_of_beq_eq_true hok
      split at hst
      · rename_i o r
        cases hsc : Nat.beq o am_SCR with
        | true =>
          rw [hsc] at hst
          obtain rfl := Nat.eq_of_beq_eq_true hsc
          cases hlw : am_lw M with
          | false => rw [hlw] at hst; cases hst
          | true =>
            rw [hlw] at hst
            obtain ⟨x1, x2, x3⟩ := hX hlw
            exact va_slen hx hb x1 x2 x3 hS hdg (k0 _ _ _ _ (Option.some.inj hst).symm hL)
        | false =>
          rw [hsc] at hst
          simp only [cond_false] at hst
          split at hst
          · rename_i tg n f ho
            have hg := am_cW_get (G := G) (ad := ad) ho
            cases htg : Nat.beq tg 0 with
            | true => exact va_alen (x := (n, .inl f)) hx hb hK hP o 0 (cA := G.1) (by rw [hg]; show some (ad o, Sum.inl ((bif Nat.beq tg 0 then G.1 else G.2), n, Sum.inl f)) = _; rw [htg]; rfl) (ty := .int) rfl rfl hdg (k0 _ _ _ _ (Option.some.inj hst).symm hL)
            | false => exact va_alen (x := (n, .inl f)) hx hb hK hP o 1 (cA := G.2) (by rw [hg]; show some (ad o, Sum.inl ((bif Nat.beq tg 0 then G.1 else G.2), n, Sum.inl f)) = _; rw [htg]; rfl) (ty := .boolean) rfl rfl hdg (k0 _ _ _ _ (Option.some.inj hst).symm hL)
          · cases hst
      · cases hst
    | iaload =>
      simp only at hst
      obtain rfl := Nat.eq_of_beq_eq_true hok
      split at hst
      · rename_i i o r
        cases hsc : Nat.beq o am_SCR with
        | true =>
          rw [hsc] at hst
          obtain rfl := Nat.eq_of_beq_eq_true hsc
          cases hlw : am_lw M with
          | false => rw [hlw] at hst; cases hst
          | true =>
            rw [hlw] at hst
            simp only [cond_true] at hst
            obtain ⟨x1, x2, x3⟩ := hX hlw
            by_cases hi2 : am_in i X.1
            · rw [if_pos hi2] at hst
              exact va_sld hx hb x1 x2 x3 hS (vp_in_iff.mpr hi2) hdg (k0 _ _ _ _ (Option.some.inj hst).symm hL)
            · rw [if_neg hi2] at hst; cases hst
        | false =>
          rw [hsc] at hst
          simp only [cond_false] at hst
          split at hst
          · rename_i n f ho
            by_cases hi2 : am_in i n
            · rw [if_pos hi2] at hst
              exact va_iald hx hb hK hP o 0 (cA := G.1) (am_cW_get ho) rfl (vp_in_iff.mpr hi2) hdg (k0 _ _ _ _ (Option.some.inj hst).symm hL)
            · rw [if_neg hi2] at hst; cases hst
          · cases hst
      · cases hst
    | baload =>
      simp only at hst
      obtain rfl := Nat.eq_of_beq_eq_true hok
      split at hst
      · rename_i i o r
        split at hst
        · rename_i n f ho
          by_cases hi2 : am_in i n
          · rw [if_pos hi2] at hst
            exact va_zald hx hb hK hP o 1 (cA := G.2) (am_cW_get ho) rfl (vp_in_iff.mpr hi2) hdg (k0 _ _ _ _ (Option.some.inj hst).symm hL)
          · rw [if_neg hi2] at hst; cases hst
        · cases hst
      · cases hst
    | iastore =>
      simp only at hst
      obtain rfl := Nat.eq_of_beq_eq_true hok
      split at hst
      · rename_i x i o r
        split at hst
        · rename_i n f ho
          by_cases hi2 : am_in i n
          · rw [if_pos hi2] at hst
            refine va_iast hx hb hK hP hD hS o 0 (cA := G.1) (am_cW_get ho) rfl (vp_in_iff.mpr hi2) hdg (fun H1 locs1 hP1 hD1 hS1 => ?_)
            exact k1 _ _ o _ (.inl (0, n, upd f i.toNatClampNeg x)) H1 locs1 ho rfl (Option.some.inj hst).symm hP1 hD1 hS1
          · rw [if_neg hi2] at hst; cases hst
        · cases hst
      · cases hst
    | bastore =>
      simp only at hst
      obtain rfl := Nat.eq_of_beq_eq_true hok
      split at hst
      · rename_i x i o r
        split at hst
        · rename_i n f ho
          by_cases hi2 : am_in i n
          · rw [if_pos hi2] at hst
            refine va_zast hx hb hK hP hD hS o 1 (cA := G.2) (am_cW_get ho) rfl (vp_in_iff.mpr hi2) hdg (fun H1 locs1 hP1 hD1 hS1 => ?_)
            exact k1 _ _ o _ (.inl (1, n, upd f i.toNatClampNeg (vp_nar .boolean x))) H1 locs1 ho rfl (Option.some.inj hst).symm hP1 hD1 hS1
          · rw [if_neg hi2] at hst; cases hst
        · cases hst
      · cases hst
    | new idx =>
      simp only [Bool.and_eq_true] at hok hst
      obtain rfl := Nat.eq_of_beq_eq_true hok.2
      have ha : a < 7 := Nat.le_of_ble_eq_true hok.1
      cases hco : am_al M && am_wf L S h with
      | false => rw [hco] at hst; cases hst
      | true =>
        rw [hco] at hst
        simp only [am_wf, Bool.and_eq_true] at hco
        obtain ⟨-, w1, w2, w3, w4⟩ := hco
        have w4 : h.length < am_SCR := Nat.le_of_ble_eq_true w4
        obtain rfl := Option.some.inj hst
        have z1 : (h ++ [(Sum.inr (a, am_df a) : AMc)]).length = h.length + 1 := by simp
        have z2 : am_sz (h ++ [(Sum.inr (a, am_df a) : AMc)]) = am_sz h + am_N a := by simp [am_sz, am_sz1, am_df]
        dsimp only at hc hs kk
        rw [z1] at hc
        rw [z2] at hs
        refine va_new (D := D) (ci := a) hx hb hts (am_cl_in a ha) (am_ty a) (am_cl_ty a ha) hown (hts _ (am_TB_of t how rfl)) (hts _ (am_cl_new a ha).1) (hts _ (am_cl_new a ha).2) hK hP hD hS hA (am_cl_at a ha) (fs := am_df a) (fun j hj => ?_) (by omega) (by omega) hdg (fun q H1 hP1 hD1 hS1 => ?_)
        · unfold am_df vp_V
          rw [List.getD_eq_getElem?_getD, List.getElem?_map, List.getElem?_range hj]
          rfl
        · have ee : ∀ i, i < h.length ∨ i = am_SCR → (fun j => if j = h.length then q else ad j) i = ad i := by
            intro i hi
            show (if i = h.length then q else ad i) = ad i
            rw [if_neg (by rcases hi with hi | hi <;> omega)]
          have hw2 : am_cW G (fun j => if j = h.length then q else ad j) (h ++ [.inr (a, am_df a)]) = am_cW G ad h ++ [(q, .inr (a, am_df a))] := by
            rw [am_cW_push ee w3]
            show _ ++ [((if h.length = h.length then q else ad h.length), Sum.inr (a, (am_df a).map (am_rv _)))] = _
            rw [if_pos rfl, am_df_map]
          rw [← hw2] at hP1 hD1
          have := kk H1 locs ls (fun j => if j = h.length then q else ad j) (cells + 1) (slots + am_N a) (by rw [z1]; omega) (by rw [z2]; omega) hP1 hD1 hS1 (am_LR_ext ee w1 hL) (fun i hi => by rw [z1] at hi; exact if_neg (by omega)) (Or.inr (by rw [z1]; omega)) (by rw [z1]; omega) (by rw [z2]; omega)
          rw [List.map_cons, am_map_ext ee w2] at this
          rw [show am_rv (fun j => if j = h.length then q else ad j) (.ref h.length) = .ref q by show Value.ref (if h.length = h.length then q else ad h.length) = _; rw [if_pos rfl]] at this
          exact this
    | newarray aty =>
      dsimp only at hst
      split at hst
      · rename_i n r
        cases hco : am_al M && am_wf L r h with
        | false => rw [hco] at hst; cases hst
        | true =>
          rw [hco] at hst
          simp only [cond_true] at hst
          by_cases hn : 0 ≤ n.toInt ∧ n.toInt < 100000
          · rw [if_pos hn] at hst
            simp only [am_wf, Bool.and_eq_true] at hco
            obtain ⟨-, w1, w2, w3, w4⟩ := hco
            have w4 : h.length < am_SCR := Nat.le_of_ble_eq_true w4
            obtain rfl := Option.some.inj hst
            have z1 : (h ++ [(Sum.inl (a, n.toNatClampNeg, fun _ => 0) : AMc)]).length = h.length + 1 := by simp
            have z2 : am_sz (h ++ [(Sum.inl (a, n.toNatClampNeg, fun _ => 0) : AMc)]) = am_sz h + n.toNatClampNeg := by simp [am_sz, am_sz1]
            have hn0 : ¬ n < 0 := by rw [Int32.lt_iff_toInt_lt, Int32.toInt_zero]; omega
            have hnc : n.toNatClampNeg < 100000 := by
              have : n.toNatClampNeg = n.toInt.toNat := rfl
              omega
            dsimp only at hc hs kk
            rw [z1] at hc
            rw [z2] at hs
            cases aty with
            | int =>
              simp only [Bool.and_eq_true] at hok
              obtain rfl := Nat.eq_of_beq_eq_true hok.1
              obtain rfl := Nat.eq_of_beq_eq_true hok.2
              refine va_newa (atype := .int) (a0 := (n.toNatClampNeg, .inl fun _ => 0)) (N' := n.toNatClampNeg) hx hb (hts _ am_new_w.2.2.1) (ty := .int) rfl hK hP hD hS hA (fun cA => rfl) hn0 rfl (by show n.toNatClampNeg * 4 ≤ _; omega) (by omega) (by omega) hdg (fun q cA H1 hK1 hP1 hD1 hS1 => ?_)
              have hca : cA = G.1 := by
                have h5 := (hK1.2 2 (cA, .int) rfl).2
                have h6 := (hK.2 0 (G.1, .int) rfl).2
                exact Option.some.inj (h5.symm.trans h6)
              subst hca
              have ee : ∀ i, i < h.length ∨ i = am_SCR → (fun j => if j = h.length then q else ad j) i = ad i := by
                intro i hi
                show (if i = h.length then q else ad i) = ad i
                rw [if_neg (by rcases hi with hi | hi <;> omega)]
              have hw2 : am_cW G (fun j => if j = h.length then q else ad j) (h ++ [.inl (0, n.toNatClampNeg, fun _ => 0)]) = am_cW G ad h ++ [(q, .inl (G.1, n.toNatClampNeg, .inl fun _ => 0))] := by
                rw [am_cW_push ee w3]
                show _ ++ [((if h.length = h.length then q else ad h.length), _)] = _
                rw [if_pos rfl]
                rfl
              rw [← hw2] at hP1 hD1
              have := kk H1 locs ls (fun j => if j = h.length then q else ad j) (cells + 1) (slots + n.toNatClampNeg) (by rw [z1]; omega) (by rw [z2]; omega) hP1 hD1 hS1 (am_LR_ext ee w1 hL) (fun i hi => by rw [z1] at hi; exact if_neg (by omega)) (Or.inr (by rw [z1]; omega)) (by rw [z1]; omega) (by rw [z2]; omega)
              rw [List.map_cons, am_map_ext ee w2] at this
              rw [show am_rv (fun j => if j = h.length then q else ad j) (.ref h.length) = .ref q by show Value.ref (if h.length = h.length then q else ad h.length) = _; rw [if_pos rfl]] at this
              exact this
            | boolean =>
              simp only [Bool.and_eq_true] at hok
              obtain rfl := Nat.eq_of_beq_eq_true hok.1
              obtain rfl := Nat.eq_of_beq_eq_true hok.2
              refine va_newa (atype := .boolean) (a0 := (n.toNatClampNeg, .inl fun _ => 0)) (N' := n.toNatClampNeg) hx hb (hts _ am_new_w.2.2.2) (ty := .boolean) rfl hK hP hD hS hA (fun cA => rfl) hn0 rfl (by show n.toNatClampNeg * 1 ≤ _; omega) (by omega) (by omega) hdg (fun q cA H1 hK1 hP1 hD1 hS1 => ?_)
              have hca : cA = G.2 := by
                have h5 := (hK1.2 2 (cA, .boolean) rfl).2
                have h6 := (hK.2 1 (G.2, .boolean) rfl).2
                exact Option.some.inj (h5.symm.trans h6)
              subst hca
              have ee : ∀ i, i < h.length ∨ i = am_SCR → (fun j => if j = h.length then q else ad j) i = ad i := by
                intro i hi
                show (if i = h.length then q else ad i) = ad i
                rw [if_neg (by rcases hi with hi | hi <;> omega)]
              have hw2 : am_cW G (fun j => if j = h.length then q else ad j) (h ++ [.inl (1, n.toNatClampNeg, fun _ => 0)]) = am_cW G ad h ++ [(q, .inl (G.2, n.toNatClampNeg, .inl fun _ => 0))] := by
                rw [am_cW_push ee w3]
                show _ ++ [((if h.length = h.length then q else ad h.length), _)] = _
                rw [if_pos rfl]
                rfl
              rw [← hw2] at hP1 hD1
              have := kk H1 locs ls (fun j => if j = h.length then q else ad j) (cells + 1) (slots + n.toNatClampNeg) (by rw [z1]; omega) (by rw [z2]; omega) hP1 hD1 hS1 (am_LR_ext ee w1 hL) (fun i hi => by rw [z1] at hi; exact if_neg (by omega)) (Or.inr (by rw [z1]; omega)) (by rw [z1]; omega) (by rw [z2]; omega)
              rw [List.map_cons, am_map_ext ee w2] at this
              rw [show am_rv (fun j => if j = h.length then q else ad j) (.ref h.length) = .ref q by show Value.ref (if h.length = h.length then q else ad h.length) = _; rw [if_pos rfl]] at this
              exact this
            | _ => simp at hok
          · rw [if_neg hn] at hst; cases hst
      · cases hst
    | invokespecial idx =>
      simp only [Bool.and_eq_true, Bool.or_eq_true] at hok hst
      obtain rfl := Nat.eq_of_beq_eq_true hok.1
      split at hst
      · rename_i o r
        cases hco : Nat.beq a 999 && (Nat.ble 1 (am_fr M) && Nat.ble ((r.map fun v => v.category).sum + 12) (am_lo M)) with
        | false => rw [hco] at hst; cases hst
        | true =>
          rw [hco] at hst
          simp only [Bool.and_eq_true] at hco
          obtain ⟨c1, c2, c3⟩ := hco
          obtain rfl := Nat.eq_of_beq_eq_true c1
          have c2 := Nat.le_of_ble_eq_true c2
          have c3 := Nat.le_of_ble_eq_true c3
          have hcat : ((r.map (am_rv ad)).map fun v => v.category).sum = (r.map fun v => v.category).sum := by
            rw [List.map_map]
            congr 1
            exact List.map_congr_left (fun v _ => am_rv_cat ad v)
          refine W.objInit hx hb hown (hts _ (am_TB_of t how rfl)) (hts _ am_new_w.1) (hts _ am_new_w.2.1) rfl (by rw [hml]; exact hL.1) rfl hdg (Nat.le_trans c2 hfr) (by show 2 * 0 + _ + 12 ≤ _; rw [hcat]; omega) ?_
          exact k0 _ _ _ _ (Option.some.inj hst).symm hL
      · cases hst
    | invokestatic idx =>
      simp only [Bool.and_eq_true, Bool.or_eq_true] at hok hst
      obtain rfl := Nat.eq_of_beq_eq_true hok.1
      have hcat : ∀ r : List Value, ((r.map (am_rv ad)).map fun v => v.category).sum = (r.map fun v => v.category).sum := by
        intro r
        rw [List.map_map]
        congr 1
        exact List.map_congr_left (fun v _ => am_rv_cat ad v)
      split at hst
      · rename_i y r
        cases h7 : Nat.beq a 997 with
        | true =>
          rw [h7] at hst
          simp only [cond_true] at hst
          obtain rfl := Nat.eq_of_beq_eq_true h7
          cases hco : Nat.ble 1 (am_fr M) && Nat.ble ((r.map fun v => v.category).sum + 15) (am_lo M) with
          | false => rw [hco] at hst; cases hst
          | true =>
            rw [hco] at hst
            simp only [Bool.and_eq_true] at hco
            have c2 := Nat.le_of_ble_eq_true hco.1
            have c3 := Nat.le_of_ble_eq_true hco.2
            exact va_mabs hx hb (by rw [hml]; exact hL.1.symm) hown (hts _ (am_TB_of t how rfl)) (hts _ am_math_w.2.1.1) (hts _ am_math_w.1) (hts _ am_math_w.2.1.2) (Nat.le_trans c2 hfr) (by rw [hcat]; omega) hce hse hdg (k0 _ _ _ _ (Option.some.inj hst).symm hL)
        | false =>
          rw [h7] at hst
          simp only [cond_false] at hst
          cases h6 : Nat.beq a 996 with
          | false => rw [h6] at hst; cases hst
          | true =>
            rw [h6] at hst
            simp only [cond_true] at hst
            obtain rfl := Nat.eq_of_beq_eq_true h6
            split at hst
            · rename_i x r2
              cases hco : Nat.ble 1 (am_fr M) && Nat.ble ((r2.map fun v => v.category).sum + 15) (am_lo M) with
              | false => rw [hco] at hst; cases hst
              | true =>
                rw [hco] at hst
                simp only [Bool.and_eq_true] at hco
                have c2 := Nat.le_of_ble_eq_true hco.1
                have c3 := Nat.le_of_ble_eq_true hco.2
                exact va_mmax hx hb (by rw [hml]; exact hL.1.symm) hown (hts _ (am_TB_of t how rfl)) (hts _ am_math_w.2.2.1.1) (hts _ am_math_w.1) (hts _ am_math_w.2.2.1.2) (Nat.le_trans c2 hfr) (by rw [hcat]; omega) hce hse hdg (k0 _ _ _ _ (Option.some.inj hst).symm hL)
            · cases hst
      · rename_i y x r
        cases hco : Nat.beq a 995 && (Nat.ble 1 (am_fr M) && Nat.ble ((r.map fun v => v.category).sum + 15) (am_lo M)) with
        | false => rw [hco] at hst; cases hst
        | true =>
          rw [hco] at hst
          simp only [Bool.and_eq_true] at hco
          obtain ⟨c1, c2, c3⟩ := hco
          obtain rfl := Nat.eq_of_beq_eq_true c1
          have c2 := Nat.le_of_ble_eq_true c2
          have c3 := Nat.le_of_ble_eq_true c3
          exact va_mmax_long hx hb (by rw [hml]; exact hL.1.symm) hown (hts _ (am_TB_of t how rfl)) (hts _ am_math_w.2.2.2.1) (hts _ am_math_w.1) (hts _ am_math_w.2.2.2.2) (Nat.le_trans c2 hfr) (by rw [hcat]; omega) hce hse hdg (k0 _ _ _ _ (Option.some.inj hst).symm hL)
      · cases hst
    | _ => cases hst
end AmSnd
