def am_mg (k : Nat) : AMinfo := am_mt.getD k AM_X5_isIn
def am_SCR : Nat := 1000000
/-- an index within -/
abbrev am_in (i : Int32) (n : Nat) : Prop := 0 ≤ i.toInt ∧ i.toInt < (n : Int)
def am_up {α : Type} (f : Nat → α) (k : Nat) (x : α) : Nat → α := fun j => bif Nat.beq j k then x else f j
def am_fnd : List AMrow → Nat → Option AMrd
  | [], _ => none
  | r :: t, n => bif Nat.beq r.1 n then some r.2 else am_fnd t n
/-- may a value of category 1 or 2 be laid at this place: the one below is no long -/
def am_kl (L : AMl) : Nat → Bool
  | 0 => true
  | k + 1 => match L[k]? with
    | some (some w) => !(w.category == 2)
    | _ => true
def am_okf : FieldType → Value → Bool
  | .int, .int _ => true
  | .object _, .ref _ => true
  | .array _, .ref _ => true
  | _, _ => false
def am_wfv (n : Nat) : Value → Bool
  | .ref i => Nat.blt i n || Nat.beq i am_SCR
  | _ => true
def am_wfo (n : Nat) : Option Value → Bool
  | some v => am_wfv n v
  | none => true
def am_wfc (n : Nat) : AMc → Bool
  | .inl _ => true
  | .inr o => o.2.all (am_wfv n)
def am_wf (L : AMl) (S : List Value) (h : List AMc) : Bool := L.all (am_wfo h.length) && (S.all (am_wfv h.length) && (h.all (am_wfc h.length) && Nat.blt h.length am_SCR))
def am_ty (c k : Nat) : FieldType := match c with
  | 0 => tyX0 k
  | 1 => tyX1 k
  | 2 => tyX2 k
  | 3 => tyX3 k
  | 4 => tyX4 k
  | 5 => tyX5 k
  | _ => tyX6 k
def am_N (c : Nat) : Nat := match c with
  | 0 => 2
  | 1 => 1
  | 2 => 5
  | 3 => 7
  | 4 => 16
  | 5 => 7
  | _ => 24
def am_df (c : Nat) : List Value := (List.range (am_N c)).map (fun k => defaultValue (am_ty c k))
def am_sw : List (Int32 × Nat) → Int32 → Nat → Nat
  | [], _, d => d
  | q :: t, x, d => if x = q.1 then q.2 else am_sw t x d
abbrev AMst : Type := Nat × AMl × List Value × List AMc
/-- one instruction that neither calls nor returns -/
def am_stp (X : AMx) (M : AMinfo) (pc : Nat) (L : AMl) (S : List Value) (h : List AMc) : Option AMst :=
  match am_fnd (am_rows M) pc with
  | none => none
  | some (ins, len, a, b, v, tab, _) =>
    match ins with
    | .iconst _ => some (pc + len, L, v :: S, h)
    | .bipush _ => some (pc + len, L, v :: S, h)
    | .sipush _ => some (pc + len, L, v :: S, h)
    | .lconst _ => some (pc + len, L, v :: S, h)
    | .ldc _ => some (pc + len, L, v :: S, h)
    | .ldc_w _ => some (pc + len, L, v :: S, h)
    | .ldc2_w _ => some (pc + len, L, v :: S, h)
    | .iload _ => match L[a]? with
      | some (some (.int x)) => some (pc + len, L, .int x :: S, h)
      | _ => none
    | .iload_n _ => match L[a]? with
      | some (some (.int x)) => some (pc + len, L, .int x :: S, h)
      | _ => none
    | .lload _ => match L[a]? with
      | some (some (.long x)) => some (pc + len, L, .long x :: S, h)
      | _ => none
    | .lload_n _ => match L[a]? with
      | some (some (.long x)) => some (pc + len, L, .long x :: S, h)
      | _ => none
    | .aload_n _ => match L[a]? with
      | some (some (.ref x)) => some (pc + len, L, .ref x :: S, h)
      | _ => none
    | .istore _ => match S with
      | .int x :: r => bif am_kl L a then some (pc + len, L.set a (some (.int x)), r, h) else none
      | _ => none
    | .istore_n _ => match S with
      | .int x :: r => bif am_kl L a then some (pc + len, L.set a (some (.int x)), r, h) else none
      | _ => none
    | .lstore _ => match S with
      | .long x :: r => bif am_kl L a then some (pc + len, (L.set a (some (.long x))).set (a + 1) none, r, h) else none
      | _ => none
    | .astore_n _ => match S with
      | .ref x :: r => bif am_kl L a then some (pc + len, L.set a (some (.ref x)), r, h) else none
      | _ => none
    | .iinc _ _ => match L[a]? with
      | some (some (.int x)) => (match v with
        | .int c => bif am_kl L a then some (pc + len, L.set a (some (.int (x + c))), S, h) else none
        | _ => none)
      | _ => none
    | .iadd => match S with
      | .int y :: .int x :: r => some (pc + len, L, .int (x + y) :: r, h)
      | _ => none
    | .isub => match S with
      | .int y :: .int x :: r => some (pc + len, L, .int (x - y) :: r, h)
      | _ => none
    | .imul => match S with
      | .int y :: .int x :: r => some (pc + len, L, .int (x * y) :: r, h)
      | _ => none
    | .iand => match S with
      | .int y :: .int x :: r => some (pc + len, L, .int (x &&& y) :: r, h)
      | _ => none
    | .ior => match S with
      | .int y :: .int x :: r => some (pc + len, L, .int (x ||| y) :: r, h)
      | _ => none
    | .ixor => match S with
      | .int y :: .int x :: r => some (pc + len, L, .int (x ^^^ y) :: r, h)
      | _ => none
    | .ishl => match S with
      | .int y :: .int x :: r => some (pc + len, L, .int (x <<< (y &&& 31)) :: r, h)
      | _ => none
    | .ishr => match S with
      | .int y :: .int x :: r => some (pc + len, L, .int (x >>> (y &&& 31)) :: r, h)
      | _ => none
    | .iushr => match S with
      | .int y :: .int x :: r => some (pc + len, L, .int ((x.toUInt32 >>> (y.toUInt32 &&& Int32.toUInt32 31)).toInt32) :: r, h)
      | _ => none
    | .idiv => match S with
      | .int y :: .int x :: r => if y = 0 then none else some (pc + len, L, .int (x / y) :: r, h)
      | _ => none
    | .irem => match S with
      | .int y :: .int x :: r => if y = 0 then none else some (pc + len, L, .int (x - x / y * y) :: r, h)
      | _ => none
    | .ineg => match S with
      | .int x :: r => some (pc + len, L, .int (-x) :: r, h)
      | _ => none
    | .lmul => match S with
      | .long y :: .long x :: r => some (pc + len, L, .long (x * y) :: r, h)
      | _ => none
    | .ldiv => match S with
      | .long y :: .long x :: r => if y = 0 then none else some (pc + len, L, .long (x / y) :: r, h)
      | _ => none
    | .lrem => match S with
      | .long y :: .long x :: r => if y = 0 then none else some (pc + len, L, .long (x - x / y * y) :: r, h)
      | _ => none
    | .lcmp => match S with
      | .long y :: .long x :: r => some (pc + len, L, .int (lg_cmp x y) :: r, h)
      | _ => none
    | .i2l => match S with
      | .int x :: r => some (pc + len, L, .long x.toInt64 :: r, h)
      | _ => none
    | .dup => match S with
      | w :: r => bif Nat.beq w.category 1 then some (pc + len, L, w :: w :: r, h) else none
      | _ => none
    | .dup2 => match S with
      | w :: u :: r => bif Nat.beq w.category 1 then (bif Nat.beq u.category 1 then some (pc + len, L, w :: u :: w :: u :: r, h) else none) else none
      | _ => none
    | .pop => match S with
      | w :: r => bif Nat.beq w.category 1 then some (pc + len, L, r, h) else none
      | _ => none
    | .goto _ => some (b, L, S, h)
    | .ifCond c _ => match S with
      | .int x :: r => (match c with
        | .eq => some (if x = 0 then b else pc + len, L, r, h)
        | .ne => some (if x = 0 then pc + len else b, L, r, h)
        | .lt => some (if x < 0 then b else pc + len, L, r, h)
        | .ge => some (if 0 ≤ x then b else pc + len, L, r, h)
        | .gt => some (if 0 < x then b else pc + len, L, r, h)
        | .le => some (if x ≤ 0 then b else pc + len, L, r, h))
      | _ => none
    | .if_icmp c _ => match S with
      | .int y :: .int x :: r => (match c with
        | .eq => some (if x = y then b else pc + len, L, r, h)
        | .ne => some (if x = y then pc + len else b, L, r, h)
        | .lt => some (if x < y then b else pc + len, L, r, h)
        | .ge => some (if y ≤ x then b else pc + len, L, r, h)
        | .gt => some (if y < x then b else pc + len, L, r, h)
        | .le => some (if x ≤ y then b else pc + len, L, r, h))
      | _ => none
    | .tableswitch _ _ _ _ => match S with
      | .int x :: r => some (am_sw tab x b, L, r, h)
      | _ => none
    | .getfield _ => match S with
      | .ref o :: r => (match h[o]? with
        | some (.inr (ci, fs)) => bif Nat.beq ci a then (match fs[b]? with
          | some w => some (pc + len, L, w :: r, h)
          | none => none) else none
        | _ => none)
      | _ => none
    | .putfield _ => match S with
      | w :: .ref o :: r => (match h[o]? with
        | some (.inr (ci, fs)) => bif Nat.beq ci a && (Nat.blt b fs.length && am_okf (am_ty a b) w) then some (pc + len, L, r, h.set o (.inr (ci, fs.set b w))) else none
        | _ => none)
      | _ => none
    | .arraylength => match S with
      | .ref o :: r => bif Nat.beq o am_SCR then (bif am_lw M then some (pc + len, L, .int (Int32.ofNat X.1) :: r, h) else none) else (match h[o]? with
        | some (.inl (_, n, _)) => some (pc + len, L, .int (Int32.ofNat n) :: r, h)
        | _ => none)
      | _ => none
    | .iaload => match S with
      | .int i :: .ref o :: r => bif Nat.beq o am_SCR then (bif am_lw M then (if am_in i X.1 then some (pc + len, L, .int (X.2 i.toNatClampNeg) :: r, h) else none) else none) else (match h[o]? with
        | some (.inl (0, n, f)) => if am_in i n then some (pc + len, L, .int (f i.toNatClampNeg) :: r, h) else none
        | _ => none)
      | _ => none
    | .baload => match S with
      | .int i :: .ref o :: r => (match h[o]? with
        | some (.inl (1, n, f)) => if am_in i n then some (pc + len, L, .int (f i.toNatClampNeg) :: r, h) else none
        | _ => none)
      | _ => none
    | .iastore => match S with
      | .int x :: .int i :: .ref o :: r => (match h[o]? with
        | some (.inl (0, n, f)) => if am_in i n then some (pc + len, L, r, h.set o (.inl (0, n, upd f i.toNatClampNeg x))) else none
        | _ => none)
      | _ => none
    | .bastore => match S with
      | .int x :: .int i :: .ref o :: r => (match h[o]? with
        | some (.inl (1, n, f)) => if am_in i n then some (pc + len, L, r, h.set o (.inl (1, n, upd f i.toNatClampNeg (vp_nar .boolean x)))) else none
        | _ => none)
      | _ => none
    | .new _ => bif am_al M && am_wf L S h then some (pc + len, L, .ref h.length :: S, h ++ [.inr (a, am_df a)]) else none
    | .newarray _ => match S with
      | .int n :: r => bif am_al M && am_wf L r h then (if 0 ≤ n.toInt ∧ n.toInt < 100000 then some (pc + len, L, .ref h.length :: r, h ++ [.inl (a, n.toNatClampNeg, fun _ => 0)]) else none) else none
      | _ => none
    | .invokestatic _ => match S with
      | .int y :: r => bif Nat.beq a 997 then (bif Nat.ble 1 (am_fr M) && Nat.ble ((r.map fun v => v.category).sum + 15) (am_lo M) then some (pc + len, L, .int (if 0 ≤ y then y else 0 - y) :: r, h) else none) else bif Nat.beq a 996 then (match r with
        | .int x :: r2 => bif Nat.ble 1 (am_fr M) && Nat.ble ((r2.map fun v => v.category).sum + 15) (am_lo M) then some (pc + len, L, .int (if x < y then y else x) :: r2, h) else none
        | _ => none) else none
      | .long y :: .long x :: r => bif Nat.beq a 995 && (Nat.ble 1 (am_fr M) && Nat.ble ((r.map fun v => v.category).sum + 15) (am_lo M)) then some (pc + len, L, .long (if y < x then x else y) :: r, h) else none
      | _ => none
    | .invokespecial _ => match S with
      | .ref _ :: r => bif Nat.beq a 999 && (Nat.ble 1 (am_fr M) && Nat.ble ((r.map fun v => v.category).sum + 12) (am_lo M)) then some (pc + len, L, r, h) else none
      | _ => none
    | _ => none
/-- a return, with what is returned -/
def am_ret (M : AMinfo) (pc : Nat) (S : List Value) : Option (Option Value) :=
  match am_fnd (am_rows M) pc with
  | none => none
  | some (ins, _) =>
    match ins with
    | .ireturn => match S with
      | [.int x] => (match am_rt M with
        | some .int => some (some (.int x))
        | some .boolean => if x = 0 then some (some (.int 0)) else if x = 1 then some (some (.int 1)) else none
        | _ => none)
      | _ => none
    | .lreturn => match S with
      | [.long x] => (match am_rt M with
        | some .long => some (some (.long x))
        | _ => none)
      | _ => none
    | .areturn => match S with
      | [.ref x] => (match am_rt M with
        | some (.object _) => some (some (.ref x))
        | _ => none)
      | _ => none
    | .return_ => match S with
      | [] => (match am_rt M with
        | none => some none
        | _ => none)
      | _ => none
    | _ => none
/-- has the receiver the callee's class -/
def am_rcv (K : AMinfo) (h : List AMc) : List Value → Bool
  | .ref o :: _ => match h[o]? with
    | some (.inr (ci, _)) => Nat.beq ci (am_cls K)
    | _ => false
  | _ => false
def am_sl : List Value → AMl
  | [] => []
  | v :: t => bif Nat.beq v.category 2 then some v :: none :: am_sl t else some v :: am_sl t
def am_cok (M K : AMinfo) (b : Nat) (S : List Value) : Bool := Nat.ble (am_sl ((S.take b).reverse)).length (am_nL K) && ((Nat.ble b S.length && Nat.ble (am_fr K + 1) (am_fr M)) && (Nat.ble (8 + (am_nL K + 11) + am_lo K) (am_lo M) && (Nat.ble ((S.drop b).map fun v => v.category).sum 8 && (!(am_al K) || am_al M))))
/-- a call: the callee's number, what it is given, what stays -/
def am_cal (M : AMinfo) (pc : Nat) (S : List Value) (h : List AMc) : Option (Nat × List Value × List Value) :=
  match am_fnd (am_rows M) pc with
  | none => none
  | some (ins, _, a, b, _) =>
    match ins with
    | .invokevirtual _ => bif Nat.blt a 900 && am_cok M (am_mg a) b S && am_rcv (am_mg a) h ((S.take b).reverse) then some (a, (S.take b).reverse, S.drop b) else none
    | .invokestatic _ => bif Nat.blt a 900 && am_cok M (am_mg a) b S then some (a, (S.take b).reverse, S.drop b) else none
    | .invokespecial _ => bif Nat.blt a 900 && am_cok M (am_mg a) b S && am_rcv (am_mg a) h ((S.take b).reverse) then some (a, (S.take b).reverse, S.drop b) else none
    | _ => none
def am_ent (M : AMinfo) (as : List Value) : AMl := am_sl as ++ List.replicate (am_nL M - (am_sl as).length) none
/-- behind a call that makes cells: what the caller holds is of the cells that were there -/
def am_bk (K : AMinfo) (L : AMl) (r : List Value) (h h1 : List AMc) : Bool := bif am_al K then L.all (am_wfo h.length) && (r.all (am_wfv h.length) && Nat.ble h1.length am_SCR) else true
def am_run (X : AMx) : Nat → AMinfo → Nat → AMl → List Value → List AMc → Option (Option Value × List AMc)
  | 0, _, _, _, _, _ => none
  | n + 1, M, pc, L, S, h =>
    match am_stp X M pc L S h with
    | some st => am_run X n M st.1 st.2.1 st.2.2.1 st.2.2.2
    | none => match am_ret M pc S with
      | some r => some (r, h)
      | none => match am_cal M pc S h with
        | none => none
        | some q => match am_run X n (am_mg q.1) 0 (am_ent (am_mg q.1) q.2.1) [] h with
          | none => none
          | some r => bif am_bk (am_mg q.1) L q.2.2 h r.2 then am_run X n M (pc + 3) L (r.1.toList ++ q.2.2) r.2 else none
theorem am_run_mono (X : AMx) : ∀ (n : Nat) (M : AMinfo) (pc : Nat) (L : AMl) (S : List Value) (h : List AMc) (r : Option Value × List AMc), am_run X n M pc L S h = some r → am_run X (n + 1) M pc L S h = some r := by
  intro n
  induction n with
  | zero => intro M pc L S h r hr; simp [am_run] at hr
  | succ n ih =>
    intro M pc L S h r hr
    rw [am_run] at hr ⊢
    cases h1 : am_stp X M pc L S h with
    | some st =>
      simp only [h1] at hr ⊢
      exact ih _ _ _ _ _ _ hr
    | none =>
      simp only [h1] at hr ⊢
      cases h2 : am_ret M pc S with
      | some v => simp only [h2] at hr ⊢; exact hr
      | none =>
        simp only [h2] at hr ⊢
        cases h3 : am_cal M pc S h with
        | none => simp only [h3] at hr; cases hr
        | some q =>
          simp only [h3] at hr ⊢
          cases h4 : am_run X n (am_mg q.1) 0 (am_ent (am_mg q.1) q.2.1) [] h with
          | none => simp only [h4] at hr; cases hr
          | some w =>
            simp only [h4] at hr
            simp only [ih _ _ _ _ _ _ h4]
            cases h5 : am_bk (am_mg q.1) L q.2.2 h w.2 with
            | false => simp only [h5, cond_false] at hr; cases hr
            | true =>
              simp only [h5, cond_true] at hr ⊢
              exact ih _ _ _ _ _ _ hr
theorem am_run_le (X : AMx) {n k : Nat} (hk : n ≤ k) {M : AMinfo} {pc : Nat} {L : AMl} {S : List Value} {h : List AMc} {r : Option Value × List AMc} (hr : am_run X n M pc L S h = some r) : am_run X k M pc L S h = some r := by
  obtain ⟨d, rfl⟩ := Nat.exists_eq_add_of_le hk
  induction d with
  | zero => exact hr
  | succ d ih => exact am_run_mono X _ _ _ _ _ _ _ (ih (by omega))
/-- what a state comes to -/
noncomputable def am_E (X : AMx) (M : AMinfo) (pc : Nat) (L : AMl) (S : List Value) (h : List AMc) : Option (Option Value × List AMc) :=
  @dite (Option (Option Value × List AMc)) (∃ r, ∃ n, am_run X n M pc L S h = some r) (Classical.propDecidable _) (fun hx => some hx.choose) (fun _ => none)
theorem am_E_iff {X : AMx} {M : AMinfo} {pc : Nat} {L : AMl} {S : List Value} {h : List AMc} {r : Option Value × List AMc} : am_E X M pc L S h = some r ↔ ∃ n, am_run X n M pc L S h = some r := by
  unfold am_E
  constructor
  · intro hr
    split at hr
    · rename_i hx
      obtain ⟨n, hn⟩ := hx.choose_spec
      rw [← Option.some.inj hr]
      exact ⟨n, hn⟩
    · cases hr
  · intro hr
    obtain ⟨n, hn⟩ := hr
    have hx : ∃ r, ∃ n, am_run X n M pc L S h = some r := ⟨r, n, hn⟩
    rw [dif_pos hx]
    obtain ⟨k, hk⟩ := hx.choose_spec
    have h1 := am_run_le X (Nat.le_max_left n k) hn
    have h2 := am_run_le X (Nat.le_max_right n k) hk
    rw [h1] at h2
    exact h2.symm
theorem am_E_ext {X : AMx} {M : AMinfo} {pc pc' : Nat} {L L' : AMl} {S S' : List Value} {h h' : List AMc} (e : ∀ r, (∃ n, am_run X n M pc L S h = some r) ↔ (∃ n, am_run X n M pc' L' S' h' = some r)) : am_E X M pc L S h = am_E X M pc' L' S' h' := by
  apply Option.ext
  intro r
  rw [am_E_iff, am_E_iff]
  exact e r
theorem am_E_step {X : AMx} {M : AMinfo} {pc : Nat} {L : AMl} {S : List Value} {h : List AMc} {st : AMst} (e : am_stp X M pc L S h = some st) : am_E X M pc L S h = am_E X M st.1 st.2.1 st.2.2.1 st.2.2.2 := by
  apply am_E_ext
  intro r
  constructor
  · intro hr
    obtain ⟨n, hn⟩ := hr
    cases n with
    | zero => simp [am_run] at hn
    | succ n =>
      rw [am_run] at hn
      simp only [e] at hn
      exact ⟨n, hn⟩
  · intro hr
    obtain ⟨n, hn⟩ := hr
    refine ⟨n + 1, ?_⟩
    rw [am_run]
    simp only [e]
    exact hn
def am_it (X : AMx) (M : AMinfo) : Nat → AMst → Option AMst
  | 0, st => some st
  | k + 1, st => match am_stp X M st.1 st.2.1 st.2.2.1 st.2.2.2 with
    | some st' => am_it X M k st'
    | none => none
theorem am_E_n' {X : AMx} {M : AMinfo} : ∀ (k : Nat) (st st' : AMst), am_it X M k st = some st' → am_E X M st.1 st.2.1 st.2.2.1 st.2.2.2 = am_E X M st'.1 st'.2.1 st'.2.2.1 st'.2.2.2 := by
  intro k
  induction k with
  | zero => intro st st' e; rw [am_it] at e; cases e; rfl
  | succ k ih =>
    intro st st' e
    rw [am_it] at e
    cases h1 : am_stp X M st.1 st.2.1 st.2.2.1 st.2.2.2 with
    | none => simp only [h1] at e; cases e
    | some s1 =>
      simp only [h1] at e
      rw [am_E_step h1]
      exact ih _ _ e
theorem am_E_n {X : AMx} {M : AMinfo} (k : Nat) {pc pc' : Nat} {L L' : AMl} {S S' : List Value} {h h' : List AMc} (e : am_it X M k (pc, L, S, h) = some (pc', L', S', h')) : am_E X M pc L S h = am_E X M pc' L' S' h' := am_E_n' k _ _ e
theorem am_E_br {X : AMx} {M : AMinfo} (k : Nat) {c : Prop} [Decidable c] {pc p q : Nat} {L L' : AMl} {S S' : List Value} {h h' : List AMc} (e : am_it X M k (pc, L, S, h) = some (if c then p else q, L', S', h')) : am_E X M pc L S h = if c then am_E X M p L' S' h' else am_E X M q L' S' h' := by
  rw [am_E_n k e]
  split <;> rfl
theorem am_E_g {X : AMx} {M : AMinfo} {c : Prop} [Decidable c] {pc pc' : Nat} {L L' : AMl} {S S' : List Value} {h h' : List AMc} (e : am_stp X M pc L S h = if c then some (pc', L', S', h') else none) (e2 : am_ret M pc S = none) (e3 : am_cal M pc S h = none) : am_E X M pc L S h = if c then am_E X M pc' L' S' h' else none := by
  by_cases hc : c
  · rw [if_pos hc] at e ⊢
    exact am_E_step e
  · rw [if_neg hc] at e ⊢
    cases h1 : am_E X M pc L S h with
    | none => rfl
    | some r =>
      obtain ⟨n, hn⟩ := am_E_iff.mp h1
      cases n with
      | zero => simp [am_run] at hn
      | succ n => rw [am_run] at hn; simp only [e, e2, e3] at hn; cases hn
theorem am_E_gr {X : AMx} {M : AMinfo} (k : Nat) {c : Prop} [Decidable c] {pc p pc' : Nat} {L L1 L' : AMl} {S S1 S' : List Value} {h h1 h' : List AMc} (e0 : am_it X M k (pc, L, S, h) = some (p, L1, S1, h1)) (e : am_stp X M p L1 S1 h1 = if c then some (pc', L', S', h') else none) (e2 : am_ret M p S1 = none) (e3 : am_cal M p S1 h1 = none) : am_E X M pc L S h = if c then am_E X M pc' L' S' h' else none := (am_E_n k e0).trans (am_E_g e e2 e3)
theorem am_E_gn {X : AMx} {M : AMinfo} (k : Nat) {c : Prop} [Decidable c] {pc p pc' : Nat} {L L1 L' : AMl} {S S1 S' : List Value} {h h1 h' : List AMc} (e0 : am_it X M k (pc, L, S, h) = some (p, L1, S1, h1)) (e : am_stp X M p L1 S1 h1 = if c then none else some (pc', L', S', h')) (e2 : am_ret M p S1 = none) (e3 : am_cal M p S1 h1 = none) : am_E X M pc L S h = if c then none else am_E X M pc' L' S' h' := by
  rw [am_E_n k e0, am_E_g (c := ¬ c) (pc' := pc') (L' := L') (S' := S') (h' := h') (by rw [e]; by_cases hc : c <;> simp [hc]) e2 e3]
  by_cases hc : c <;> simp [hc]
theorem am_E_ret {X : AMx} {M : AMinfo} (k : Nat) {pc p : Nat} {L L1 : AMl} {S S1 : List Value} {h h1 : List AMc} {v : Option Value} (e0 : am_it X M k (pc, L, S, h) = some (p, L1, S1, h1)) (e : am_stp X M p L1 S1 h1 = none) (e2 : am_ret M p S1 = some v) : am_E X M pc L S h = some (v, h1) := by
  rw [am_E_n k e0]
  exact am_E_iff.mpr ⟨1, by rw [am_run]; simp only [e, e2]⟩
/-- a method's answer and cells, from its arguments -/
noncomputable def am_D (X : AMx) (k : Nat) (as : List Value) (h : List AMc) : Option (Option Value × List AMc) := am_E X (am_mg k) 0 (am_ent (am_mg k) as) [] h
/-- behind a call: what it answered goes onto the stack -/
noncomputable def am_C (X : AMx) (M : AMinfo) (p : Nat) (L : AMl) (S : List Value) (o : Option (Option Value × List AMc)) : Option (Option Value × List AMc) := o.bind (fun r => am_E X M p L (r.1.toList ++ S) r.2)
theorem am_C_v {X : AMx} {M : AMinfo} {p : Nat} {L : AMl} {S : List Value} {v : Value} {h : List AMc} : am_C X M p L S (some (some v, h)) = am_E X M p L (v :: S) h := rfl
theorem am_C_0 {X : AMx} {M : AMinfo} {p : Nat} {L : AMl} {S : List Value} {h : List AMc} : am_C X M p L S (some (none, h)) = am_E X M p L S h := rfl
theorem am_C_n {X : AMx} {M : AMinfo} {p : Nat} {L : AMl} {S : List Value} : am_C X M p L S none = none := rfl
theorem am_C_if {X : AMx} {M : AMinfo} {p : Nat} {L : AMl} {S : List Value} {c : Prop} [Decidable c] {a b : Option (Option Value × List AMc)} : am_C X M p L S (if c then a else b) = if c then am_C X M p L S a else am_C X M p L S b := by split <;> rfl
theorem am_E_call {X : AMx} {M : AMinfo} (k : Nat) {pc p d : Nat} {L L1 : AMl} {S S1 as rest : List Value} {h h1 : List AMc} (e0 : am_it X M k (pc, L, S, h) = some (p, L1, S1, h1)) (e : am_stp X M p L1 S1 h1 = none) (e2 : am_ret M p S1 = none) (e3 : am_cal M p S1 h1 = some (d, as, rest)) (e4 : am_al (am_mg d) = false) : am_E X M pc L S h = am_C X M (p + 3) L1 rest (am_D X d as h1) := by
  rw [am_E_n k e0]
  have hb : ∀ L r h0 h2, am_bk (am_mg d) L r h0 h2 = true := fun L r h0 h2 => by unfold am_bk; rw [e4]; rfl
  apply Option.ext
  intro w
  unfold am_C
  rw [am_E_iff, Option.bind_eq_some_iff]
  constructor
  · intro hr
    obtain ⟨n, hn⟩ := hr
    cases n with
    | zero => simp [am_run] at hn
    | succ n =>
      rw [am_run] at hn
      simp only [e, e2, e3] at hn
      cases h4 : am_run X n (am_mg d) 0 (am_ent (am_mg d) as) [] h1 with
      | none => simp only [h4] at hn; cases hn
      | some r =>
        simp only [h4, hb, cond_true] at hn
        exact ⟨r, am_E_iff.mpr ⟨n, h4⟩, am_E_iff.mpr ⟨n, hn⟩⟩
  · intro hr
    obtain ⟨r, g1, g2⟩ := hr
    obtain ⟨n1, g1⟩ := am_E_iff.mp g1
    obtain ⟨n2, g2⟩ := am_E_iff.mp g2
    refine ⟨max n1 n2 + 1, ?_⟩
    rw [am_run]
    simp only [e, e2, e3, am_run_le X (Nat.le_max_left n1 n2) g1, hb, cond_true]
    exact am_run_le X (Nat.le_max_right n1 n2) g2
theorem am_E_retz {X : AMx} {M : AMinfo} (k : Nat) {pc p : Nat} {L L1 : AMl} {S : List Value} {x : Int32} {h h1 : List AMc} (e0 : am_it X M k (pc, L, S, h) = some (p, L1, [.int x], h1)) (e : am_stp X M p L1 [.int x] h1 = none) (e2 : am_ret M p [.int x] = if x = 0 then some (some (.int 0)) else if x = 1 then some (some (.int 1)) else none) (e3 : am_cal M p [.int x] h1 = none) : am_E X M pc L S h = if x = 0 then some (some (.int 0), h1) else if x = 1 then some (some (.int 1), h1) else none := by
  by_cases c0 : x = 0
  · rw [if_pos c0] at e2 ⊢
    exact am_E_ret k e0 e e2
  · rw [if_neg c0] at e2 ⊢
    by_cases c1 : x = 1
    · rw [if_pos c1] at e2 ⊢
      exact am_E_ret k e0 e e2
    · rw [if_neg c1] at e2 ⊢
      rw [am_E_n k e0]
      cases h1' : am_E X M p L1 [.int x] h1 with
      | none => rfl
      | some r =>
        obtain ⟨n, hn⟩ := am_E_iff.mp h1'
        cases n with
        | zero => simp [am_run] at hn
        | succ n => rw [am_run] at hn; simp only [e, e2, e3] at hn; cases hn
def am_swf {α : Type} (f : Nat → α) : List (Int32 × Nat) → Int32 → Nat → α
  | [], _, d => f d
  | q :: t, x, d => if x = q.1 then f q.2 else am_swf f t x d
theorem am_sw_f {α : Type} (f : Nat → α) (x : Int32) (d : Nat) : ∀ t : List (Int32 × Nat), f (am_sw t x d) = am_swf f t x d
  | [] => rfl
  | q :: t => by
    show f (if x = q.1 then q.2 else am_sw t x d) = (if x = q.1 then f q.2 else am_swf f t x d)
    by_cases h : x = q.1
    · rw [if_pos h, if_pos h]
    · rw [if_neg h, if_neg h, am_sw_f f x d t]
theorem am_E_sw {X : AMx} {M : AMinfo} (k : Nat) {pc : Nat} {t : List (Int32 × Nat)} {x : Int32} {d : Nat} {L L' : AMl} {S S' : List Value} {h h' : List AMc} {r : Option (Option Value × List AMc)} (e : am_it X M k (pc, L, S, h) = some (am_sw t x d, L', S', h')) (e2 : am_swf (fun p => am_E X M p L' S' h') t x d = r) : am_E X M pc L S h = r := (am_E_n k e).trans ((am_sw_f (fun p => am_E X M p L' S' h') x d t).trans e2)
