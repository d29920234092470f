def R_law : String := "PlumbCreedsLaw"
def lw_P (b : Addr) (xs : List Int32) (args : Array Value) (s : State) : Prop := args = #[.ref b] ∧ s.IntsAt b xs ∧ xs.length ≤ 3584 ∧ (Jvm.Cond.and given_1 narrow_1).before args s = true
def lw_Q (_ : Array Value) (s : State) (o : Outcome) (t : State) : Prop := o = .returned (some (.int 1)) ∧ Framed s o t [] 600000 7302250
def lw_Z (below : List Frame) (a : Array Value) (s : State) : State → Prop := fun t => ∃ o, t.status = .running ∧ Ended t below o ∧ lw_Q a s o t
/-- the law's own end, with 1 on the stack, nothing written that was there before, its room as the claim has it -/
theorem lw_ret {p : Program} {l : Launch} {e : Env} {s : State} {m : MethodId} {below : List Frame} {meth : Method} {c : Code} {b : Nat} (hx : p.tables.exec = Jvm.exec) (hb : c.code = code) (hr : meth.sig.returnType = ret) (hlocks : meth.locks = false) {pc : Nat} {H : Heap} {ls : Array Slot} (hdg : decode code pc = .ok (.ireturn, 1)) : W p l e room_1 s m #[Value.ref b] below meth c H [] 600000 7302250 (lw_Z below #[Value.ref b] s) (F0 m pc ls [.int 1]) := by
  intro T hT X
  obtain ⟨fs, hret, hrun, hended, hW, hframe⟩ := X.leave (v := some (.int 1)) (hlocks := hlocks) (fun h => by rw [hr] at h; cases h)
  have hmeth' : T.vm.method? m = some meth := X.method'
  refine ⟨T.setFrames fs, ?_, .returned (some (.int 1)), hrun, hended, rfl, ⟨_, rfl⟩, hW, hframe⟩
  jvm_step X.here [X.here.top, hx, hb, hdg, hmeth', hr, ret, narrow_b1]
  (try refine ⟨rfl, ?_⟩); (try refine ⟨rfl, ?_⟩)
  first | (intro acts; rw [hret _ acts rfl rfl rfl]) | rw [hret _ _ rfl rfl rfl]
  exact Steps.refl _
/-- what holds at the law's entry: the machine, the code, the tables' words (any of lw_tbl by 'hts w (by decide +kernel)'), the script of L ints xs at the cell b, what the Statement gives of the start (any of its parts by flat_of_before) -/
def lw_At (p : Program) (s : State) (m : MethodId) (meth : Method) (c : Code) (b L : Nat) (xs : Nat → Int32) : Prop :=
  p.tables.exec = Jvm.exec ∧ c.code = code ∧ meth.sig.returnType = ret ∧ c.maxLocals = 4 ∧ s.vm.findClass R_law = some m.cls ∧ (∀ w ∈ lw_tbl, w.before #[Value.ref b] s = true) ∧ va_X b L xs s s.heap ∧ b < s.heap.size ∧ meth.locks = false ∧ (Jvm.Cond.and given_1 narrow_1).before #[Value.ref b] s = true
set_option maxRecDepth 100000 in
set_option maxHeartbeats 4000000 in
/-- the law's walk, out of a run of the small machine -/
theorem am_whole {p : Program} {e : Env} {s : State} {m : MethodId} {below : List Frame} {meth : Method} {c : Code} (l : Launch) {b L : Nat} {xs : Nat → Int32} (C0 : lw_At p s m meth c b L xs) {n : Nat} {h' : List AMc} (hrun : am_run (L, xs) n AM_L_law 0 (am_ent AM_L_law [.ref am_SCR]) [] [] = some (some (.int 1), h')) (hz1 : h'.length ≤ 600000) (hz2 : am_sz h' ≤ 7302250) : W p l e room_1 s m #[Value.ref b] below meth c s.heap [] 0 0 (lw_Z below #[Value.ref b] s) (entryFrame m ([Value.ref b] : List Value).toArray 4) := by
  obtain ⟨hx, hb, hr, hml, hown, hts, hX, hbl, hlocks, hgv⟩ := id C0
  have htsT : ∀ w ∈ am_TB, w.before #[Value.ref b] s = true := fun w hw => hts w (List.mem_filter.mp hw).1
  have hk : ∀ c, ∃ (cC : ClassId) (iS : Nat → Nat), c < 7 → u_Kn s (am_R c) (am_T c) (am_N c) cC iS := by
    intro c
    by_cases hc : c < 7
    · obtain ⟨cC, iS, h⟩ := u_known htsT (am_cl_in c hc) (htsT _ (am_cl_new c hc).1)
      exact ⟨cC, iS, fun _ => h⟩
    · exact ⟨0, fun _ => 0, fun h => absurd h hc⟩
  have hKn : ∀ (k : Nat) (q : vw_C), vwCl[k]? = some q → u_Kn s q.1 q.2.1 q.2.2 ((fun c => (hk c).choose) k) ((fun c => (hk c).choose_spec.choose) k) := by
    intro k q hq
    have hk7 : k < 7 := (List.getElem?_eq_some_iff.mp hq).1
    rw [am_cl_at k hk7] at hq
    cases hq
    exact (hk k).choose_spec.choose_spec hk7
  obtain ⟨cI, kI, compI, i1, i2, i3⟩ := Cond.arrayClass_spec (htsT _ am_new_w.2.2.1)
  obtain ⟨cZ, kZ, compZ, j1, j2, j3⟩ := Cond.arrayClass_spec (htsT _ am_new_w.2.2.2)
  have hK : va_K ((fun c => (hk c).choose), (fun c => (hk c).choose_spec.choose)) vwCl [(cI, .int), (cZ, .boolean)] s := by
    refine ⟨hKn, fun k q hq => ?_⟩
    match k, hq with
    | 0, hq => cases hq; exact ⟨fun n z => ⟨fun k h => (by cases h), kI, i2, compI, i3⟩, i1⟩
    | 1, hq => cases hq; exact ⟨fun n z => ⟨fun k h => (by cases h), kZ, j2, compZ, j3⟩, j1⟩
    | k + 2, hq => simp at hq
  have hN : am_NW s := fun own idx x host hw => va_Nw.of rfl (hts _ hw)
  have hM : AM_L_law ∈ am_mt := List.mem_of_getElem? (i := 155) rfl
  have hCx : am_Cx AM_L_law p room_1 s m #[Value.ref b] meth c (fun q : Nat => s.heap.size ≤ q) (cI, cZ) ((fun c => (hk c).choose), (fun c => (hk c).choose_spec.choose)) := ⟨hM, hx, hb, hml, hr, hlocks, hown, htsT, fun z => absurd z (by decide), fun _ h => h, hK, hN, Nat.le_of_ble_eq_true rfl, Nat.le_of_ble_eq_true rfl⟩
  rw [lg_entry_eq]
  have hL := am_LR_ent (ad := fun _ => b) (M := AM_L_law) (as := [.ref am_SCR]) (Nat.le_of_ble_eq_true rfl)
  refine am_all (L, xs) n AM_L_law p l e room_1 s m #[Value.ref b] below meth c _ (cI, cZ) _ (fun q : Nat => s.heap.size ≤ q) 0 (am_ent AM_L_law [.ref am_SCR]) [] [] (some (.int 1)) h' (fun _ => b) _ s.heap [] 0 0 h'.length (am_sz h') 0 (fun _ => b) hCx hrun (fun k q h => by simp [am_cW] at h) ⟨fun i j p q h => by simp [am_cW] at h, fun k q h => by simp [am_cW] at h⟩ va_S.rf hL (fun _ => ⟨hX, hbl, Nat.not_le.mpr hbl⟩) (by simp) (by simp [am_sz]) hz1 hz2 (Nat.le_refl _) (fun _ _ => rfl) ?_
  intro pcr lsr Sr H1 locs1 ad1 hret hP1 hD1 hS1 _
  have hrt : am_rt AM_L_law = some .boolean := rfl
  rcases am_ret_row hret hM with ⟨x, rfl, h, hv, hdg⟩ | ⟨x, rfl, h, h01, hv, hdg⟩ | ⟨x, rfl, h, hv, hdg⟩ | ⟨x, C, rfl, h, hv, hdg⟩ | ⟨rfl, h, hv, hdg⟩
  · rw [hrt] at h; cases h
  · cases hv
    exact va_forget hS1.2.2 (W.widen hz1 hz2 (lw_ret hx hb hr hlocks hdg))
  · rw [hrt] at h; cases h
  · rw [hrt] at h; cases h
  · rw [hrt] at h; cases h
