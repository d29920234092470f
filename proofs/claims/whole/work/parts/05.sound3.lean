/-! Runs: they grow; a run of the small machine is a run of the JVM. -/
theorem am_bne {a b : Nat} (h : a ≠ b) : Nat.beq a b = false := by
  cases z : Nat.beq a b with
  | false => rfl
  | true => exact absurd (Nat.eq_of_beq_eq_true z) h
set_option maxRecDepth 100000 in
set_option maxHeartbeats 40000000 in
theorem am_stp_grow {X : AMx} {M : AMinfo} {pc : Nat} {L : AMl} {S : List Value} {h : List AMc} {st : AMst} (hst : am_stp X M pc L S h = some st) : h.length ≤ st.2.2.2.length ∧ am_sz h ≤ am_sz st.2.2.2 ∧ (am_al M = false → st.2.2.2.length = h.length) := by
  unfold am_stp at hst
  cases hf : am_fnd (am_rows M) pc with
  | none => rw [hf] at hst; cases hst
  | some rd =>
    rw [hf] at hst
    obtain ⟨ins, len, a, b, v, tab, t⟩ := rd
    have same : ∀ {pc' : Nat} {L' : AMl} {S' : List Value}, (pc', L', S', h) = st → h.length ≤ st.2.2.2.length ∧ am_sz h ≤ am_sz st.2.2.2 ∧ (am_al M = false → st.2.2.2.length = h.length) := by
      intro pc' L' S' e1
      subst e1
      exact ⟨Nat.le_refl _, Nat.le_refl _, fun _ => rfl⟩
    have setc : ∀ {pc' : Nat} {L' : AMl} {S' : List Value} {o : Nat} {c0 c' : AMc}, h[o]? = some c0 → am_sz1 c' = am_sz1 c0 → (pc', L', S', h.set o c') = st → h.length ≤ st.2.2.2.length ∧ am_sz h ≤ am_sz st.2.2.2 ∧ (am_al M = false → st.2.2.2.length = h.length) := by
      intro pc' L' S' o c0 c' ho hz e1
      subst e1
      have e3 : am_sz (h.set o c') = am_sz h := am_sz_set ho hz
      exact ⟨by dsimp only; rw [List.length_set]; exact Nat.le_refl _, by dsimp only; rw [e3]; exact Nat.le_refl _, fun _ => List.length_set⟩
    have app : ∀ {pc' : Nat} {L' : AMl} {S' : List Value} {c' : AMc}, am_al M = true → (pc', L', S', h ++ [c']) = st → h.length ≤ st.2.2.2.length ∧ am_sz h ≤ am_sz st.2.2.2 ∧ (am_al M = false → st.2.2.2.length = h.length) := by
      intro pc' L' S' c' hal e1
      subst e1
      exact ⟨by simp, by simp [am_sz], fun z => by rw [hal] at z; cases z⟩
    dsimp only at hst
    cases ins <;> dsimp only at hst <;> (try simp only [Bool.cond_eq_ite] at hst) <;> first
      | (cases hst; done)
      | exact same (Option.some.inj hst)
      | (repeat' split at hst) <;> first
        | (cases hst; done)
        | exact same (Option.some.inj hst)
        | (rename_i ho hcnd; simp only [Bool.and_eq_true] at hcnd; exact setc ho (by show (List.set _ _ _).length = _; exact List.length_set) (Option.some.inj hst))
        | (rename_i ho hcnd; refine setc ho ?_ (Option.some.inj hst); rfl)
        | (rename_i hcnd; simp only [Bool.and_eq_true] at hcnd; exact app hcnd.1 (Option.some.inj hst))
        | (rename_i hcnd h2; simp only [Bool.and_eq_true] at hcnd; exact app hcnd.1 (Option.some.inj hst))
theorem am_cal_spec {M : AMinfo} {pc : Nat} {S : List Value} {h : List AMc} {d : Nat} {as rest : List Value} (hc : am_cal M pc S h = some (d, as, rest)) : ∃ (ins : Instr) (len a b : Nat) (v : Value) (tab : List (Int32 × Nat)) (t : Nat), am_fnd (am_rows M) pc = some (ins, len, a, b, v, tab, t) ∧ d = a ∧ as = (S.take b).reverse ∧ rest = S.drop b ∧ am_cok M (am_mg a) b S = true ∧ a < 900 ∧ ((∃ i, ins = .invokevirtual i ∧ am_rcv (am_mg a) h as = true) ∨ (∃ i, ins = .invokestatic i) ∨ (∃ i, ins = .invokespecial i ∧ am_rcv (am_mg a) h as = true)) := by
  unfold am_cal at hc
  cases hf : am_fnd (am_rows M) pc with
  | none => rw [hf] at hc; cases hc
  | some rd =>
    rw [hf] at hc
    obtain ⟨ins, len, a, b, v, tab, t⟩ := rd
    dsimp only at hc
    refine ⟨ins, len, a, b, v, tab, t, rfl, ?_⟩
    cases ins with
    | invokevirtual i =>
      dsimp only at hc
      cases hk : Nat.blt a 900 && am_cok M (am_mg a) b S && am_rcv (am_mg a) h ((S.take b).reverse) with
      | false => rw [hk] at hc; cases hc
      | true =>
        rw [hk] at hc
        cases hc
        simp only [Bool.and_eq_true] at hk
        exact ⟨rfl, rfl, rfl, hk.1.2, Nat.le_of_ble_eq_true hk.1.1, Or.inl ⟨i, rfl, hk.2⟩⟩
    | invokestatic i =>
      dsimp only at hc
      cases hk : Nat.blt a 900 && am_cok M (am_mg a) b S with
      | false => rw [hk] at hc; cases hc
      | true =>
        rw [hk] at hc
        cases hc
        simp only [Bool.and_eq_true] at hk
        exact ⟨rfl, rfl, rfl, hk.2, Nat.le_of_ble_eq_true hk.1, Or.inr (Or.inl ⟨i, rfl⟩)⟩
    | invokespecial i =>
      dsimp only at hc
      cases hk : Nat.blt a 900 && am_cok M (am_mg a) b S && am_rcv (am_mg a) h ((S.take b).reverse) with
      | false => rw [hk] at hc; cases hc
      | true =>
        rw [hk] at hc
        cases hc
        simp only [Bool.and_eq_true] at hk
        exact ⟨rfl, rfl, rfl, hk.1.2, Nat.le_of_ble_eq_true hk.1.1, Or.inr (Or.inr ⟨i, rfl, hk.2⟩)⟩
    | _ => cases hc
theorem am_mw_0 {M : AMinfo} {idx d : Nat} (hd : d < 900) : am_mw M idx d (.int 0) = some (.methodLink (am_R (am_cls M)) idx (am_y (am_mg d))) := by
  unfold am_mw
  rw [am_bne (by omega : d ≠ 999), am_bne (by omega : d ≠ 997), am_bne (by omega : d ≠ 996), am_bne (by omega : d ≠ 995)]
  rfl
theorem am_mw_1 {M : AMinfo} {idx d : Nat} (hd : d < 900) : am_mw M idx d (.int 1) = some (.methodLinkNest (am_R (am_cls M)) idx (am_y (am_mg d)) RX5) := by
  unfold am_mw
  rw [am_bne (by omega : d ≠ 999), am_bne (by omega : d ≠ 997), am_bne (by omega : d ≠ 996), am_bne (by omega : d ≠ 995)]
  rfl
theorem am_rcv_spec {K : AMinfo} {h : List AMc} {as : List Value} (hr : am_rcv K h as = true) : ∃ (o ci : Nat) (fs tl : List Value), as = .ref o :: tl ∧ h[o]? = some (.inr (ci, fs)) ∧ ci = am_cls K := by
  unfold am_rcv at hr
  split at hr
  · rename_i o tl
    split at hr
    · rename_i ci fs ho
      exact ⟨o, ci, fs, tl, rfl, ho, Nat.eq_of_beq_eq_true hr⟩
    · cases hr
  · cases hr
theorem am_vw_lt {G : ClassId × ClassId} {D : va_G} {ad : Nat → Nat} {h : List AMc} {H : Heap} {o ci : Nat} {fs : List Value} (hP : va_P D vwCl (am_cW G ad h) H) (ho : h[o]? = some (.inr (ci, fs))) : ci < 7 := by
  obtain ⟨r, h1, -⟩ := hP o _ (am_cW_get ho)
  exact (List.getElem?_eq_some_iff.mp h1).1
theorem am_mg_mem (k : Nat) : am_mg k ∈ am_mt := by
  unfold am_mg
  rw [List.getD_eq_getElem?_getD]
  cases hk : am_mt[k]? with
  | none => exact List.mem_of_getElem? (i := 81) rfl
  | some M => exact List.mem_of_getElem? hk
theorem am_run_grow (X : AMx) : ∀ (n : Nat) {M : AMinfo} {pc : Nat} {L : AMl} {S : List Value} {h : List AMc} {r : Option Value × List AMc}, am_run X n M pc L S h = some r → h.length ≤ r.2.length ∧ am_sz h ≤ am_sz r.2 ∧ (am_al M = false → r.2.length = h.length)
  | 0, M, pc, L, S, h, r, hr => by simp [am_run] at hr
  | n + 1, M, pc, L, S, h, r, hr => by
    rw [am_run] at hr
    cases h1 : am_stp X M pc L S h with
    | some st =>
      simp only [h1] at hr
      have g := am_stp_grow h1
      have ih := am_run_grow X n hr
      exact ⟨Nat.le_trans g.1 ih.1, Nat.le_trans g.2.1 ih.2.1, fun z => (ih.2.2 z).trans (g.2.2 z)⟩
    | none =>
      simp only [h1] at hr
      cases h2 : am_ret M pc S with
      | some v => simp only [h2] at hr; cases hr; exact ⟨Nat.le_refl _, Nat.le_refl _, fun _ => rfl⟩
      | none =>
        simp only [h2] at hr
        cases h3 : am_cal M pc S h with
        | none => simp only [h3] at hr; cases hr
        | some q =>
          obtain ⟨d, as, rest⟩ := q
          simp only [h3] at hr
          cases h4 : am_run X n (am_mg d) 0 (am_ent (am_mg d) as) [] h with
          | none => simp only [h4] at hr; cases hr
          | some w =>
            simp only [h4] at hr
            cases h5 : am_bk (am_mg d) L rest h w.2 with
            | false => simp only [h5, cond_false] at hr; cases hr
            | true =>
              simp only [h5, cond_true] at hr
              have g := am_run_grow X n h4
              have ih := am_run_grow X n hr
              refine ⟨Nat.le_trans g.1 ih.1, Nat.le_trans g.2.1 ih.2.1, fun z => (ih.2.2 z).trans (g.2.2 ?_)⟩
              obtain ⟨ins, len, a, b, v, tab, t, -, rfl, -, -, hk, -, -⟩ := am_cal_spec h3
              simp only [am_cok, Bool.and_eq_true, Bool.or_eq_true] at hk
              have := hk.2.2.2.2
              rw [z] at this
              simpa using this
def am_ws (M : AMinfo) : List Cond := .code (am_y M) (am_by M) (am_nL M) (am_rt M) :: am_TB
def am_rm (M : AMinfo) (mc ms : Nat) : Room := { frames := am_fr M, cells := mc, slots := ms, locals := am_lo M }
def am_Pc (G : ClassId × ClassId) (D : va_G) (ad : Nat → Nat) (h : List AMc) (as : List Value) (sz : Nat) : Array Value → State → Prop := va_Pc (as.map (am_rv ad)) (fun U => U.heap.size = sz ∧ va_P D vwCl (am_cW G ad h) U.heap ∧ va_K D vwCl [(G.1, .int), (G.2, .boolean)] U ∧ va_D (fun _ => True) (am_cW G ad h) ∧ am_NW U)
def am_Qc (G : ClassId × ClassId) (D : va_G) (ad : Nat → Nat) (h : List AMc) (v : Option Value) (h' : List AMc) (sz : Nat) : Array Value → State → Outcome → State → Prop := fun _ st o t => (∃ ad' : Nat → Nat, (∀ i, i < h.length ∨ h'.length ≤ i → ad' i = ad i) ∧ o = .returned (v.map (am_rv ad')) ∧ va_P D vwCl (am_cW G ad' h') t.heap ∧ va_D (va_A (am_cW G ad h) sz) (am_cW G ad' h')) ∧ va_F (va_A (am_cW G ad h) sz) st t
theorem am_NW_vm {u U : State} (hv : u.vm = U.vm) (h : am_NW u) : am_NW U := fun own idx x host hw => (h own idx x host hw).same rfl hv
theorem am_NW_warm {s U : State} (hW : s.WarmedH U.vm) (h : am_NW s) : am_NW U := fun own idx x host hw => va_Nw.warmM hW (h own idx x host hw)
theorem am_Pc_blind {G : ClassId × ClassId} {D : va_G} {ad : Nat → Nat} {h : List AMc} {as : List Value} {sz : Nat} : FrameBlind (am_Pc G D ad h as sz) := by
  intro a U g mk q
  obtain ⟨q0, q1, qP, qK, qD, qN⟩ := q
  exact ⟨q0, q1, qP, va_K.moved (u := U) (U := U.calling g mk a) (Vm.Alike.refl U.vm) qK, qD, am_NW_vm (u := U) rfl qN⟩
section AmCall
variable {p : Program} {l : Launch} {e : Env} {R : Room} {s : State} {m : MethodId} {args : Array Value} {below : List Frame} {meth : Method} {c : Code} {Q : State → Prop}
theorem am_callG {G : ClassId × ClassId} {D : va_G} {A : Nat → Prop} {ad : Nat → Nat} {h h1 : List AMc} {v : Option Value} {H : Heap} {locs : List Loc} {cells slots mc ms pc : Nat} {ls : Array Slot} {st0 rest : List Value} {a : Array Value} (hr : va_Run p l e R s m args below meth c H locs cells slots mc ms (F0 m pc ls st0) rest (am_Qc G D ad h v h1 H.size a) (va_A (am_cW G ad h) H.size)) (hS : va_S A s.heap H locs) (hA1 : ∀ q, va_A (am_cW G ad h) H.size q → A q)
    (kk : ∀ (ad' : Nat → Nat) (H1 : Heap) (locs1 : List Loc), (∀ i, i < h.length ∨ h1.length ≤ i → ad' i = ad i) → va_P D vwCl (am_cW G ad' h1) H1 → va_D A (am_cW G ad' h1) → va_S A s.heap H1 locs1 → W p l e R s m args below meth c H1 locs1 (cells + mc) (slots + ms) Q (F0 m (pc + 3) ls ((v.map (am_rv ad')).toList ++ rest))) : W p l e R s m args below meth c H locs cells slots Q (F0 m pc ls st0) := by
  intro T hT X
  obtain ⟨v', st₀, t, T', L, h0, X', hL, e1, e2, ⟨⟨ad', hag, hv, hP1, hD1⟩, hz, hk⟩, st⟩ := hr T hT X
  cases hv
  rw [h0] at hz hk
  obtain ⟨t2, a1, b1⟩ := kk ad' T'.heap (locs ++ L) hag (by rw [e1]; exact hP1) (hD1.weaken (fun _ _ _ z => hA1 _ z))
    ⟨Nat.le_trans hS.1 (by rw [e1]; exact hz), fun q h1 h2 => by rw [e1, hk q (Nat.lt_of_lt_of_le h1 hS.1) (fun z => h2 (hA1 q z))]; exact hS.2.1 q h1 h2, fun q hq => by
      rcases List.mem_append.mp hq with h | h
      · exact hS.2.2 q h
      · exact hA1 _ (hL q h)⟩ T' rfl X'
  exact ⟨t2, st t2 a1, b1⟩
end AmCall
/-- a run of n steps is a run of the machine -/
def am_P (X : AMx) (n : Nat) : Prop := ∀ (M : AMinfo) (p : Program) (l : Launch) (e : Env) (R : Room) (s : State) (m : MethodId) (args : Array Value) (below : List Frame) (meth : Method) (c : Code) (Q : State → Prop) (G : ClassId × ClassId) (D : va_G) (A : Nat → Prop) (pc : Nat) (L : AMl) (S : List Value) (h : List AMc) (v : Option Value) (h' : List AMc) (ad : Nat → Nat) (ls : Array Slot) (H : Heap) (locs : List Loc) (cells slots CF SF n0 : Nat) (ad0 : Nat → Nat),
  am_Cx M p R s m args meth c A G D → am_run X n M pc L S h = some (v, h') → va_P D vwCl (am_cW G ad h) H → va_D A (am_cW G ad h) → va_S A s.heap H locs → am_LR ad L (am_nL M) ls → (am_lw M = true → va_X (ad am_SCR) X.1 X.2 s s.heap ∧ ad am_SCR < s.heap.size ∧ ¬ A (ad am_SCR)) → cells + h'.length = CF + h.length → slots + am_sz h' = SF + am_sz h → CF ≤ R.cells → SF ≤ R.slots → n0 ≤ h.length → (∀ i, i < n0 ∨ h.length ≤ i → ad i = ad0 i) →
  (∀ (pcr : Nat) (lsr : Array Slot) (Sr : List Value) (H1 : Heap) (locs1 : List Loc) (ad1 : Nat → Nat), am_ret M pcr Sr = some v → va_P D vwCl (am_cW G ad1 h') H1 → va_D A (am_cW G ad1 h') → va_S A s.heap H1 locs1 → (∀ i, i < n0 ∨ h'.length ≤ i → ad1 i = ad0 i) → W p l e R s m args below meth c H1 locs1 CF SF Q (F0 m pcr lsr (Sr.map (am_rv ad1)))) →
  W p l e R s m args below meth c H locs cells slots Q (F0 m pc ls (S.map (am_rv ad)))
theorem am_ret_row {M : AMinfo} {pc : Nat} {S : List Value} {v : Option Value} (h : am_ret M pc S = some v) (hM : M ∈ am_mt) : (∃ x, S = [.int x] ∧ am_rt M = some .int ∧ v = some (.int x) ∧ decode (am_by M) pc = .ok (.ireturn, 1)) ∨ (∃ x, S = [.int x] ∧ am_rt M = some .boolean ∧ (x = 0 ∨ x = 1) ∧ v = some (.int x) ∧ decode (am_by M) pc = .ok (.ireturn, 1)) ∨ (∃ x, S = [.long x] ∧ am_rt M = some .long ∧ v = some (.long x) ∧ decode (am_by M) pc = .ok (.lreturn, 1)) ∨ (∃ x C, S = [.ref x] ∧ am_rt M = some (.object C) ∧ v = some (.ref x) ∧ decode (am_by M) pc = .ok (.areturn, 1)) ∨ (S = [] ∧ am_rt M = none ∧ v = none ∧ decode (am_by M) pc = .ok (.return_, 1)) := by
  unfold am_ret at h
  cases hf : am_fnd (am_rows M) pc with
  | none => rw [hf] at h; cases h
  | some rd =>
    rw [hf] at h
    have hm := am_fnd_mem hf
    have hok := List.all_eq_true.mp (am_mt_ok M hM).1 _ hm
    obtain ⟨ins, len, a, b, v', tab, t⟩ := rd
    dsimp only at h
    simp only [am_ok, Bool.and_eq_true, decide_eq_true_eq] at hok
    obtain ⟨hdg, hok⟩ := hok
    cases ins with
    | ireturn =>
      dsimp only at h hok
      obtain rfl := Nat.eq_of_beq_eq_true hok
      split at h
      · rename_i x
        split at h
        · rename_i hrt
          exact Or.inl ⟨x, rfl, hrt, (Option.some.inj h).symm, hdg⟩
        · rename_i hrt
          refine Or.inr (Or.inl ⟨x, rfl, hrt, ?_⟩)
          by_cases h0 : x = 0
          · rw [if_pos h0] at h
            subst h0
            exact ⟨Or.inl rfl, (Option.some.inj h).symm, hdg⟩
          · rw [if_neg h0] at h
            by_cases h1 : x = 1
            · rw [if_pos h1] at h
              subst h1
              exact ⟨Or.inr rfl, (Option.some.inj h).symm, hdg⟩
            · rw [if_neg h1] at h; cases h
        · cases h
      · cases h
    | lreturn =>
      dsimp only at h hok
      obtain rfl := Nat.eq_of_beq_eq_true hok
      split at h
      · rename_i x
        split at h
        · rename_i hrt
          exact Or.inr (Or.inr (Or.inl ⟨x, rfl, hrt, (Option.some.inj h).symm, hdg⟩))
        · cases h
      · cases h
    | areturn =>
      dsimp only at h hok
      obtain rfl := Nat.eq_of_beq_eq_true hok
      split at h
      · rename_i x
        split at h
        · rename_i C hrt
          exact Or.inr (Or.inr (Or.inr (Or.inl ⟨x, C, rfl, hrt, (Option.some.inj h).symm, hdg⟩)))
        · cases h
      · cases h
    | return_ =>
      dsimp only at h hok
      obtain rfl := Nat.eq_of_beq_eq_true hok
      split at h
      · split at h
        · rename_i hrt
          exact Or.inr (Or.inr (Or.inr (Or.inr ⟨rfl, hrt, (Option.some.inj h).symm, hdg⟩)))
        · cases h
      · cases h
    | _ => cases h
/-- a method's contract -/
theorem am_met {X : AMx} {n : Nat} (hPn : am_P X n) {K : AMinfo} (hK : K ∈ am_mt) (hlw : am_lw K = false) {as : List Value} {h h' : List AMc} {v : Option Value} (hrun : am_run X n K 0 (am_ent K as) [] h = some (v, h')) (hn : (am_sl as).length ≤ am_nL K) (l : Launch) (G : ClassId × ClassId) (D : va_G) (ad : Nat → Nat) (sz : Nat) :
    Met l (am_y K) (am_ws K) (am_rm K (h'.length - h.length) (am_sz h' - am_sz h)) (am_Pc G D ad h as sz) (am_Qc G D ad h v h' sz) (h'.length - h.length) (am_sz h' - am_sz h) (va_A (am_cW G ad h) sz) := by
  obtain ⟨-, -, hm⟩ := am_mt_ok K hK
  obtain ⟨⟨hcode, hini, hcl, hpl, -⟩, -⟩ := hm hlw
  refine Met.ofW (cc := am_by K) (maxL := am_nL K) (ret := am_rt K) hpl rfl ?_
  intro p e s m args below meth c s₁ B hml hv
  obtain ⟨rfl, hsz, hP, hKs, hD0, hN⟩ := hv
  subst hsz
  have hts := atoms_spec (ws := am_ws K) B.pre
  have hown : s.vm.findClass (am_R (am_cls K)) = some m.cls := by rw [← hcl]; exact findClass_of_methodNamed B.named
  have hlocks := B.notSynchronized
  have hD : va_D (va_A (am_cW G ad h) s.heap.size) (am_cW G ad h) := hD0.self
  have g := am_run_grow X n hrun
  dsimp only at g
  have hCx : am_Cx K p (headSpec (am_ws K) (am_rm K (h'.length - h.length) (am_sz h' - am_sz h))).room s m ((as.map (am_rv ad)).toArray) meth c (va_A (am_cW G ad h) s.heap.size) G D :=
    ⟨hK, B.exec, B.bytes, hml, B.returns, hlocks, hown, fun w hw => hts w (List.mem_cons_of_mem _ hw), fun z => ((name_of_methodNamed B.named B.method).1).trans z, fun q hq => Or.inr hq, hKs, hN, Nat.le_refl _, Nat.le_refl _⟩
  rw [lg_entry_eq]
  refine hPn K p l e _ s m _ below meth c _ G D (va_A (am_cW G ad h) s.heap.size) 0 (am_ent K as) [] h v h' ad _ s.heap [] 0 0 (h'.length - h.length) (am_sz h' - am_sz h) h.length ad hCx hrun hP hD va_S.rf (am_LR_ent hn) (fun z => by rw [hlw] at z; cases z) (by omega) (by omega) (Nat.le_refl _) (Nat.le_refl _) (Nat.le_refl _) (fun _ _ => rfl) ?_
  intro pcr lsr Sr H1 locs1 ad1 hret hP1 hD1 hS1 hag
  have hq : ∀ t : State, t.heap = H1 → s.WarmedH t.vm → am_Qc G D ad h v h' s.heap.size ((as.map (am_rv ad)).toArray) s (.returned (v.map (am_rv ad1))) t := fun t ht hW => ⟨⟨ad1, hag, rfl, by rw [ht]; exact hP1, hD1⟩, hS1.F ht⟩
  rcases am_ret_row hret hK with ⟨x, rfl, hrt, rfl, hdg⟩ | ⟨x, rfl, hrt, hx, rfl, hdg⟩ | ⟨x, rfl, hrt, rfl, hdg⟩ | ⟨x, C, rfl, hrt, rfl, hdg⟩ | ⟨rfl, hrt, rfl, hdg⟩
  · exact W.iret (v := x) B.exec B.bytes (by rw [B.returns]; exact hrt) hq hS1.2.2 hdg hlocks
  · exact W.zret (v := x) (ty := .boolean) B.exec B.bytes (by rw [B.returns]; exact hrt) (by rcases hx with rfl | rfl <;> rfl) hq hS1.2.2 hdg hlocks
  · exact W.lret (v := x) B.exec B.bytes (by rw [B.returns]; exact hrt) hq hS1.2.2 hdg hlocks
  · exact W.aret (v := .ref (ad1 x)) B.exec B.bytes (by rw [B.returns]; exact hrt) (Or.inl ⟨C, rfl⟩) (Or.inr ⟨_, rfl⟩) hq hS1.2.2 hdg hlocks
  · exact W.vret B.exec B.bytes (by rw [B.returns]; exact hrt) hq hS1.2.2 hdg hlocks
set_option maxRecDepth 100000 in
set_option maxHeartbeats 40000000 in
theorem am_all (X : AMx) : ∀ n, am_P X n := by
  intro n
  induction n with
  | zero =>
    intro M p l e R s m args below meth c Q G D A pc L S h v h' ad ls H locs cells slots CF SF n0 ad0 C hr
    simp [am_run] at hr
  | succ n ih =>
    intro M p l e R s m args below meth c Q G D A pc L S h v h' ad ls H locs cells slots CF SF n0 ad0 C hr hP hD hS hL hX hcc hss hcf hsf hn0 hag hret
    rw [am_run] at hr
    cases h1 : am_stp X M pc L S h with
    | some st =>
      simp only [h1] at hr
      have g := am_stp_grow h1
      have gr := am_run_grow X n hr
      dsimp only at gr
      refine am_snd C h1 hP hD hS hL hX (by omega) (by omega) (fun H1 locs1 ls1 ad1 c1 s1 e1 e2 hP1 hD1 hS1 hL1 ha1 hsc _ _ => ?_)
      have hX1 : ad1 am_SCR = ad am_SCR := by
        apply ha1
        rcases hsc with z | z <;> omega
      exact ih M p l e R s m args below meth c Q G D A _ _ _ _ v h' ad1 ls1 H1 locs1 c1 s1 CF SF n0 ad0 C hr hP1 hD1 hS1 hL1 (fun z => by rw [hX1]; exact hX z) (by omega) (by omega) hcf hsf (by omega) (fun i hi => (ha1 i (by omega)).trans (hag i (by omega))) hret
    | none =>
      simp only [h1] at hr
      cases h2 : am_ret M pc S with
      | some v' =>
        simp only [h2] at hr
        cases hr
        obtain rfl : cells = CF := by omega
        obtain rfl : slots = SF := by omega
        exact hret pc ls S H locs ad h2 hP hD hS (fun i hi => hag i (by omega))
      | none =>
        simp only [h2] at hr
        cases h3 : am_cal M pc S h with
        | none => simp only [h3] at hr; cases hr
        | some q =>
          obtain ⟨d, as, rest⟩ := q
          simp only [h3] at hr
          cases h4 : am_run X n (am_mg d) 0 (am_ent (am_mg d) as) [] h with
          | none => simp only [h4] at hr; cases hr
          | some w =>
            obtain ⟨v1, hh1⟩ := w
            simp only [h4] at hr
            cases h5 : am_bk (am_mg d) L rest h hh1 with
            | false => simp only [h5, cond_false] at hr; cases hr
            | true =>
              simp only [h5, cond_true] at hr
              have g1 := am_run_grow X n h4
              have g2 := am_run_grow X n hr
              dsimp only at g1 g2
              obtain ⟨ins, len, a, b, vv, tab, t, hf, rfl, has, hrest, hk, hd9, hins⟩ := am_cal_spec h3
              obtain ⟨hM, hx, hb, hml, hrr, hlk, hown, hts, hin, hA, hKs, hN, hfr, hlo⟩ := id C
              have hm := am_fnd_mem hf
              have hok := List.all_eq_true.mp (am_mt_ok M hM).1 _ hm
              have how := am_okws_mem (am_mt_ok M hM).2.1 _ hm
              unfold am_okw am_word at how
              dsimp only at how
              simp only [am_ok, Bool.and_eq_true, decide_eq_true_eq] at hok
              obtain ⟨hdg, hok⟩ := hok
              simp only [am_cok, Bool.and_eq_true, Bool.or_eq_true] at hk
              obtain ⟨k1, ⟨k2, k3⟩, k4, k5, k6⟩ := hk
              have k1 := Nat.le_of_ble_eq_true k1
              have k2 := Nat.le_of_ble_eq_true k2
              have k3 := Nat.le_of_ble_eq_true k3
              have k4 := Nat.le_of_ble_eq_true k4
              have k5 := Nat.le_of_ble_eq_true k5
              rw [← has] at k1
              have hlen : as.length = b := by rw [has, List.length_reverse, List.length_take]; omega
              have hS2 : S = as.reverse ++ rest := by rw [has, hrest, List.reverse_reverse, List.take_append_drop]
              have hS3 : S.map (am_rv ad) = (as.map (am_rv ad)).reverse ++ rest.map (am_rv ad) := by rw [hS2, List.map_append, List.map_reverse]
              have hKm := am_mg_mem d
              have hcat : (((rest.map (am_rv ad)).map fun v => v.category).sum) ≤ 8 := by
                rw [hrest, List.map_map]
                have : (List.map ((fun v => v.category) ∘ am_rv ad) (List.drop b S)) = (S.drop b).map fun v => v.category := List.map_congr_left (fun v _ => am_rv_cat ad v)
                rw [this]
                exact k5
              have hA1 : ∀ q, va_A (am_cW G ad h) H.size q → A q := by
                intro q hq
                rcases hq with ⟨k, e0, hq⟩ | hq
                · exact hD.2 k _ hq
                · exact hA q (Nat.le_trans hS.1 hq)
              have hUP : ∀ U : State, U.heap = H → s.WarmedH U.vm → am_Pc G D ad h as H.size ((as.map (am_rv ad)).toArray) U := fun U hU hW => ⟨rfl, by rw [hU], by rw [hU]; exact hP, va_K.moved hW.alike hKs, hD.weaken (fun _ _ _ _ => trivial), am_NW_warm hW hN⟩
              have hwarm : ∀ w ∈ am_TB, ∀ (a' : Array Value) (U : State), s.WarmedH U.vm → w.before a' U = true := fun w hw a' U hW => word_at hW (am_TB_good w hw) (hts w hw)
              have hlwK : am_lw (am_mg d) = false ∧ (vv = .int 0 ∨ vv = .int 1) ∧ b = am_na (am_mg d) := by
                have hkk : am_okc b vv (am_mg d) = true := by
                  rcases hins with ⟨i, rfl, hrc⟩ | ⟨i, rfl⟩ | ⟨i, rfl, hrc⟩
                  · simp only [Bool.and_eq_true] at hok; exact hok.2.1
                  · simp only [Bool.and_eq_true, Bool.or_eq_true] at hok
                    rcases hok.2 with z | z
                    · exfalso
                      have z : 994 < d := Nat.le_of_ble_eq_true z
                      omega
                    · exact z.1
                  · simp only [Bool.and_eq_true, Bool.or_eq_true] at hok
                    rcases hok.2 with z | z
                    · exfalso
                      have z := Nat.eq_of_beq_eq_true z
                      omega
                    · exact z.1
                simp only [am_okc, Bool.and_eq_true, Bool.or_eq_true, decide_eq_true_eq] at hkk
                exact ⟨by simpa using hkk.1.1, hkk.2, Nat.eq_of_beq_eq_true hkk.1.2⟩
              obtain ⟨hlw, hvv, hbn⟩ := hlwK
              have hMet := am_met ih hKm hlw h4 k1 l G D ad H.size
              obtain ⟨⟨wc, wi, wcl, wpl, wne⟩, wk⟩ := (am_mt_ok _ hKm).2.2 hlw
              have wcT := am_TB_of _ wc rfl
              have wiT := am_TB_of _ wi rfl
              have hwsK : ∀ w ∈ am_ws (am_mg d), ∀ (a' : Array Value) (U : State), s.WarmedH U.vm → w.before a' U = true := by
                intro w hw
                rcases List.mem_cons.mp hw with rfl | hw
                · exact hwarm _ wcT
                · exact hwarm _ hw
              have hroom : (am_rm (am_mg d) (hh1.length - h.length) (am_sz hh1 - am_sz h)).frames + 1 ≤ R.frames ∧ 8 + (am_nL (am_mg d) + 11) + (am_rm (am_mg d) (hh1.length - h.length) (am_sz hh1 - am_sz h)).locals ≤ R.locals := ⟨Nat.le_trans k3 hfr, Nat.le_trans k4 hlo⟩
              -- what is left behind any of the calls
              have rest_ok : ∀ (ad' : Nat → Nat) (H1 : Heap) (locs1 : List Loc), (∀ i, i < h.length ∨ hh1.length ≤ i → ad' i = ad i) → va_P D vwCl (am_cW G ad' hh1) H1 → va_D A (am_cW G ad' hh1) → va_S A s.heap H1 locs1 → W p l e R s m args below meth c H1 locs1 (cells + (hh1.length - h.length)) (slots + (am_sz hh1 - am_sz h)) Q (F0 m (pc + 3) ls ((v1.map (am_rv ad')).toList ++ rest.map (am_rv ad))) := by
                intro ad' H1 locs1 hag1 hP1 hD1 hS1
                have hcase : (ad' am_SCR = ad am_SCR) ∧ am_LR ad' L (am_nL M) ls ∧ rest.map (am_rv ad') = rest.map (am_rv ad) := by
                  cases hal : am_al (am_mg d) with
                  | false =>
                    have hl := g1.2.2 hal
                    have : ad' = ad := by
                      funext i
                      exact hag1 i (by omega)
                    subst this
                    exact ⟨rfl, hL, rfl⟩
                  | true =>
                    unfold am_bk at h5
                    rw [hal] at h5
                    simp only [cond_true, Bool.and_eq_true] at h5
                    obtain ⟨b1, b2, b3⟩ := h5
                    have b3 := Nat.le_of_ble_eq_true b3
                    have ee : ∀ i, i < h.length ∨ i = am_SCR → ad' i = ad i := fun i hi => hag1 i (by rcases hi with z | z <;> omega)
                    exact ⟨ee _ (Or.inr rfl), am_LR_ext ee b1 hL, am_map_ext ee b2⟩
                obtain ⟨c1, c2, c3⟩ := hcase
                have hst : (v1.map (am_rv ad')).toList ++ rest.map (am_rv ad) = (v1.toList ++ rest).map (am_rv ad') := by
                  rw [List.map_append, c3]
                  cases v1 <;> rfl
                rw [hst]
                exact ih M p l e R s m args below meth c Q G D A (pc + 3) L (v1.toList ++ rest) hh1 v h' ad' ls H1 locs1 _ _ CF SF n0 ad0 C hr hP1 hD1 hS1 c2 (fun z => by rw [c1]; exact hX z) (by omega) (by omega) hcf hsf (by omega) (fun i hi => (hag1 i (by omega)).trans (hag i (by omega))) hret
              have hfits : cells + (hh1.length - h.length) ≤ R.cells ∧ slots + (am_sz hh1 - am_sz h) ≤ R.slots := ⟨by omega, by omega⟩
              have hfix : CallFix p m c (am_by M) (am_nL M) s args am_TB (am_R (am_cls M)) := ⟨hx, hb, hml, hown, hts⟩
              rw [hS3]
              rcases hins with ⟨i, rfl, hrc⟩ | ⟨i, rfl⟩ | ⟨i, rfl, hrc⟩
              · -- an object's method
                simp only [Bool.and_eq_true, decide_eq_true_eq] at hok
                obtain ⟨o1, o2, o3, o4, o5⟩ := hok
                obtain rfl := Nat.eq_of_beq_eq_true o1
                obtain rfl := o3
                have o4 := Nat.eq_of_beq_eq_true o4
                have o5 : 0 < b := Nat.le_of_ble_eq_true o5
                rw [o4] at wk
                obtain ⟨wm, wsl, wd⟩ := wk
                dsimp only at how
                rw [am_mw_0 hd9] at how
                obtain ⟨o, ci, fs, tl, rfl, ho, hci⟩ := am_rcv_spec hrc
                subst hci
                have hc7 := am_vw_lt hP ho
                have hrecv := va_recv hKs hP (am_cl_at _ hc7) (am_cW_get ho)
                exact am_callG (va_runV (C := am_R (am_cls (am_mg d))) (index := i) (bytes := am_by (am_mg d)) (maxL := am_nL (am_mg d)) (ret := am_rt (am_mg d)) (n := b - 1) (b := ad o) (As := tl.map (am_rv ad)) (rest := rest.map (am_rv ad)) hfix hMet ⟨⟨rfl, rfl, hroom.1, hroom.2, hwsK, List.mem_cons_self, hts _ wcT, hts _ wiT, wne, fun sig hsig => by rw [hsig] at wd; rw [hbn]; exact (Option.some.inj wd).symm, hts _ (am_TB_of t how rfl)⟩, hts _ (am_TB_of _ wm rfl), hts _ (am_TB_of _ wsl rfl)⟩ ⟨am_Pc_blind, hrecv, hUP⟩ rfl (by rw [List.length_map]; simp at hlen; omega) hL.1 (by show _ = _; simp [am_rv]) (lv_room hcat) hdg hfits) hS hA1 rest_ok
              · -- a static method
                simp only [Bool.and_eq_true, Bool.or_eq_true] at hok
                obtain ⟨o1, o2⟩ := hok
                obtain rfl := Nat.eq_of_beq_eq_true o1
                have o3 : Nat.beq (am_kd (am_mg d)) 0 = true := by
                  rcases o2 with z | z
                  · exfalso
                    have z : 994 < d := Nat.le_of_ble_eq_true z
                    omega
                  · exact z.2
                have o3 := Nat.eq_of_beq_eq_true o3
                rw [o3] at wk
                obtain ⟨wm, wd⟩ := wk
                dsimp only at how
                have hdesc : ∀ sig, parseMethodDescriptor (am_y (am_mg d)).desc = some sig → b = sig.parameters.length := fun sig hsig => by rw [hsig] at wd; rw [hbn]; exact (Option.some.inj wd).symm
                rcases hvv with rfl | rfl
                · rw [am_mw_0 hd9] at how
                  exact am_callG (va_runS (index := i) (bytes := am_by (am_mg d)) (maxL := am_nL (am_mg d)) (ret := am_rt (am_mg d)) (n := b) (As := as.map (am_rv ad)) (rest := rest.map (am_rv ad)) hfix hMet ⟨⟨rfl, rfl, hroom.1, hroom.2, hwsK, List.mem_cons_self, hts _ wcT, hts _ wiT, wne, hdesc, hts _ (am_TB_of t how rfl)⟩, hts _ (am_TB_of _ wm rfl)⟩ ⟨am_Pc_blind, hUP⟩ rfl (by rw [List.length_map]; exact hlen) hL.1 rfl (lv_room hcat) hdg hfits) hS hA1 rest_ok
                · rw [am_mw_1 hd9] at how
                  exact am_callG (va_runSN (index := i) (host := RX5) (bytes := am_by (am_mg d)) (maxL := am_nL (am_mg d)) (ret := am_rt (am_mg d)) (n := b) (As := as.map (am_rv ad)) (rest := rest.map (am_rv ad)) hfix hMet ⟨⟨⟨rfl, rfl, hroom.1, hroom.2, hwsK, List.mem_cons_self⟩, hts _ wcT, hts _ wiT, wne, hdesc, va_Nw.use rfl (hN _ _ _ _ (am_tb_in how))⟩, hts _ (am_TB_of _ wm rfl), trivial⟩ ⟨am_Pc_blind, hUP⟩ rfl (by rw [List.length_map]; exact hlen) hL.1 rfl (lv_room hcat) hdg hfits) hS hA1 rest_ok
              · -- a constructor
                simp only [Bool.and_eq_true, Bool.or_eq_true] at hok
                obtain ⟨o1, o2⟩ := hok
                obtain rfl := Nat.eq_of_beq_eq_true o1
                have o3 : Nat.beq (am_kd (am_mg d)) 2 = true ∧ Nat.blt 0 b = true := by
                  rcases o2 with z | z
                  · exfalso
                    have z := Nat.eq_of_beq_eq_true z
                    omega
                  · exact z.2
                have o4 := Nat.eq_of_beq_eq_true o3.1
                have o5 : 0 < b := Nat.le_of_ble_eq_true o3.2
                rw [o4] at wk
                obtain ⟨wm, wnm, wrt, wd⟩ := wk
                dsimp only at how
                obtain ⟨o, ci, fs, tl, rfl, ho, hci⟩ := am_rcv_spec hrc
                have hdesc : ∀ sig, parseMethodDescriptor (am_y (am_mg d)).desc = some sig → b - 1 = sig.parameters.length := fun sig hsig => by rw [hsig] at wd; rw [hbn]; exact (Option.some.inj wd).symm
                have wcN : Cond.code (am_y (am_mg d)) (am_by (am_mg d)) (am_nL (am_mg d)) none ∈ am_ws (am_mg d) := by rw [← wrt]; exact List.mem_cons_self
                have wcB : (Cond.code (am_y (am_mg d)) (am_by (am_mg d)) (am_nL (am_mg d)) none).before args s = true := by rw [← wrt]; exact hts _ wcT
                rcases hvv with rfl | rfl
                · rw [am_mw_0 hd9] at how
                  exact am_callG (va_runI (index := i) (bytes := am_by (am_mg d)) (maxL := am_nL (am_mg d)) (n := b - 1) (b := ad o) (As := tl.map (am_rv ad)) (rest := rest.map (am_rv ad)) hfix hMet ⟨⟨rfl, rfl, hroom.1, hroom.2, hwsK, wcN, wcB, hts _ wiT, wne, hdesc, hts _ (am_TB_of t how rfl)⟩, wnm, hts _ (am_TB_of _ wm rfl)⟩ ⟨am_Pc_blind, hUP⟩ rfl (by rw [List.length_map]; simp at hlen; omega) hL.1 (by show _ = _; simp [am_rv]) (lv_room hcat) hdg hfits) hS hA1 rest_ok
                · rw [am_mw_1 hd9] at how
                  exact am_callG (va_runIN (index := i) (host := RX5) (bytes := am_by (am_mg d)) (maxL := am_nL (am_mg d)) (n := b - 1) (b := ad o) (As := tl.map (am_rv ad)) (rest := rest.map (am_rv ad)) hfix hMet ⟨⟨⟨rfl, rfl, hroom.1, hroom.2, hwsK, wcN⟩, wcB, hts _ wiT, wne, hdesc, va_Nw.use rfl (hN _ _ _ _ (am_tb_in how))⟩, wnm, hts _ (am_TB_of _ wm rfl)⟩ ⟨am_Pc_blind, hUP⟩ rfl (by rw [List.length_map]; simp at hlen; omega) hL.1 (by show _ = _; simp [am_rv]) (lv_room hcat) hdg hfits) hS hA1 rest_ok
