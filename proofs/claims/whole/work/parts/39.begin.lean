/-! The law's beginning; what belongs together at first. -/
theorem am_ok0_t : ∀ {o : Option (Option Value × List AMc)}, am_ok0 o = true → o = some (none, am_sn o)
  | some (none, _), _ => rfl
  | some (some _, _), k => by cases k
  | none, k => by cases k
theorem am_R5_eq : am_R5 = some (none, am_H5) := am_ok0_t am_R5_ok
theorem am_R6_eq : am_R6 = some (none, am_H6) := am_ok0_t am_R6_ok
theorem am_D5 (X : AMx) : am_D X 49 [.ref 0] [.inr (5, am_df 5)] = some (none, am_H5) := by
  have e := am_R5_eq
  unfold am_R5 at e
  rw [am_run_X (X2 := X) 3000 (am_mg 49) (am_nl_all 49 (by omega)).1 (am_nl_all 49 (by omega)).2] at e
  exact am_E_iff.mpr ⟨3000, e⟩
theorem am_D6 (X : AMx) : am_D X 97 [.ref 88] (am_H5 ++ [.inr (6, am_df 6)]) = some (none, am_H6) := by
  have e := am_R6_eq
  unfold am_R6 at e
  rw [am_run_X (X2 := X) 1000 (am_mg 97) (am_nl_all 97 (by omega)).1 (am_nl_all 97 (by omega)).2] at e
  exact am_E_iff.mpr ⟨1000, e⟩
theorem law_begin (X : AMx) {H5 H6 : List AMc} (len : H5.length = 88) (hd5 : am_D X 49 [.ref 0] [.inr (5, am_df 5)] = some (none, H5)) (hb5 : am_bk (am_mg 49) [some (.ref am_SCR), none, none, none] [.ref 0] [.inr (5, am_df 5)] H5 = true) (hwf : am_wf [some (.ref am_SCR), some (.ref 0), none, none] [] H5 = true) (hd6 : am_D X 97 [.ref 88] (H5 ++ [.inr (6, am_df 6)]) = some (none, H6)) (hb6 : am_bk (am_mg 97) [some (.ref am_SCR), some (.ref 0), none, none] [.ref 88] (H5 ++ [.inr (6, am_df 6)]) H6 = true) : am_E X AM_L_law 0 (am_ent AM_L_law [.ref am_SCR]) [] [] = am_E X AM_L_law 18 [some (.ref am_SCR), some (.ref 0), some (.ref 88), some (.int 0)] [] H6 := by
  have s1 : am_E X AM_L_law 0 (am_ent AM_L_law [.ref am_SCR]) [] [] = am_E X AM_L_law (4 + 3) [some (.ref am_SCR), none, none, none] ((none : Option Value).toList ++ [.ref 0]) H5 := am_E_callA (p := 4) (L1 := [some (.ref am_SCR), none, none, none]) (S1 := [.ref 0, .ref 0]) (h1 := [.inr (5, am_df 5)]) 2 rfl rfl rfl rfl hd5 hb5
  have s2 : am_E X AM_L_law (4 + 3) [some (.ref am_SCR), none, none, none] ((none : Option Value).toList ++ [.ref 0]) H5 = am_E X AM_L_law 8 [some (.ref am_SCR), some (.ref 0), none, none] [] H5 := am_E_n 1 rfl
  have e3 : am_stp X AM_L_law 8 [some (.ref am_SCR), some (.ref 0), none, none] [] H5 = bif am_al AM_L_law && am_wf [some (.ref am_SCR), some (.ref 0), none, none] [] H5 then some (11, [some (.ref am_SCR), some (.ref 0), none, none], .ref H5.length :: [], H5 ++ [.inr (6, am_df 6)]) else none := rfl
  rw [hwf, len] at e3
  have s3 : am_E X AM_L_law 8 [some (.ref am_SCR), some (.ref 0), none, none] [] H5 = am_E X AM_L_law 11 [some (.ref am_SCR), some (.ref 0), none, none] [.ref 88] (H5 ++ [.inr (6, am_df 6)]) := am_E_step e3
  have hg : (H5 ++ [(.inr (6, am_df 6) : AMc)])[88]? = some (.inr (6, am_df 6)) := by
    rw [List.getElem?_append_right (by omega), len]
    rfl
  have hrc : ∀ H : List AMc, H[88]? = some (.inr (6, am_df 6)) → am_rcv (am_mg 97) H [.ref 88] = true := fun H hH => by
    show (match (H[88]? : Option AMc) with
      | some (.inr (ci, _)) => Nat.beq ci (am_cls (am_mg 97))
      | _ => false) = true
    rw [hH]
    rfl
  have hcal : ∀ H : List AMc, am_rcv (am_mg 97) H [.ref 88] = true → am_cal AM_L_law 12 [.ref 88, .ref 88] H = some (97, [.ref 88], [.ref 88]) := fun H hH => by
    have e : am_cal AM_L_law 12 [.ref 88, .ref 88] H = bif Nat.blt 97 900 && am_cok AM_L_law (am_mg 97) 1 [.ref 88, .ref 88] && am_rcv (am_mg 97) H [.ref 88] then some (97, [.ref 88], [.ref 88]) else none := rfl
    rw [e, hH]
    rfl
  have s4 : am_E X AM_L_law 11 [some (.ref am_SCR), some (.ref 0), none, none] [.ref 88] (H5 ++ [.inr (6, am_df 6)]) = am_E X AM_L_law (12 + 3) [some (.ref am_SCR), some (.ref 0), none, none] ((none : Option Value).toList ++ [.ref 88]) H6 := am_E_callA (p := 12) (L1 := [some (.ref am_SCR), some (.ref 0), none, none]) (S1 := [.ref 88, .ref 88]) (h1 := H5 ++ [.inr (6, am_df 6)]) 1 rfl rfl rfl (hcal _ (hrc _ hg)) hd6 hb6
  have s5 : am_E X AM_L_law (12 + 3) [some (.ref am_SCR), some (.ref 0), none, none] ((none : Option Value).toList ++ [.ref 88]) H6 = am_E X AM_L_law 18 [some (.ref am_SCR), some (.ref 0), some (.ref 88), some (.int 0)] [] H6 := am_E_n 3 rfl
  rw [s1, s2, s3, s4, s5]
def am_iR (k : Nat) : Nat := [3, 5, 7, 9, 11, 13, 15, 17, 19, 26, 28, 30, 32, 34, 36, 38, 40, 42, 52, 54, 56, 58, 60, 62, 64, 66, 68, 71, 73, 75, 77, 79, 81, 83, 85, 87, 22, 45, 47, 49].getD k 0
def am_iA (k : Nat) : Nat := [89, 90, 91, 92, 93, 94, 95, 96, 97, 98, 99, 100, 101, 102].getD k 0
def am_Z0 : Nat → Int32 := (am_up (am_up (am_up (am_up (am_up (am_up (am_up (am_up (am_up (am_up (am_up (am_up (fun _ => 0) 0 (3)) 6 (524287)) 7 (3)) 13 (524287)) 14 (3)) 20 (524287)) 21 (3)) 27 (524287)) 30 (-6)) 31 (-6)) 32 (-6)) 33 (-6))
def am_Y0 : Nat → Int32 := (am_up (fun _ => 0) 1 (3))
set_option maxRecDepth 100000 in
theorem am_bd_WH (F : Nat → Nat → Int32) : am_bd F am_Q 0 = am_WH (fun k => F (am_iR k)) am_Z0 (fun k => F (am_iA k)) am_Y0 := rfl
theorem am_INV_0 {F : Nat → Nat → Int32} (hv : ∀ (p t n : Nat) (vs : List Int32), am_Q[p]? = some (.inl (t, n, vs)) → ∀ (j : Nat) (x : Int32), vs[j]? = some x → F (0 + p) j = x) : am_INV (fun k => F (am_iR k)) am_Z0 (fun k => F (am_iA k)) am_Y0 := by
  have z : ∀ (p t n : Nat), am_Q[p]? = some (.inl (t, n, List.replicate n 0)) → ∀ j, j < n → F p j = 0 := fun p t n hp j hj => by
    have := hv p t n _ hp j 0 (by rw [List.getElem?_replicate, if_pos hj])
    rwa [Nat.zero_add] at this
  have d : ∀ (p t n : Nat), am_Q[p]? = some (.inl (t, n, [-3, 0, 3])) → F p 0 = -3 ∧ F p 1 = 0 ∧ F p 2 = 3 := fun p t n hp => by
    have a0 := hv p t n _ hp 0 (-3) rfl
    have a1 := hv p t n _ hp 1 0 rfl
    have a2 := hv p t n _ hp 2 3 rfl
    rw [Nat.zero_add] at a0 a1 a2
    exact ⟨a0, a1, a2⟩
  have fR1 : ∀ j, j < 7 → F (am_iR 1) j = 0 := z 5 0 7 rfl
  have fR2 : ∀ j, j < 7 → F (am_iR 2) j = 0 := z 7 0 7 rfl
  have fR3 : ∀ j, j < 7 → F (am_iR 3) j = 0 := z 9 0 7 rfl
  have fR4 : ∀ j, j < 8 → F (am_iR 4) j = 0 := z 11 0 8 rfl
  have fR5 : ∀ j, j < 8 → F (am_iR 5) j = 0 := z 13 0 8 rfl
  have fR6 : ∀ j, j < 12 → F (am_iR 6) j = 0 := z 15 0 12 rfl
  have fR7 : ∀ j, j < 12 → F (am_iR 7) j = 0 := z 17 0 12 rfl
  have fR8 : ∀ j, j < 12 → F (am_iR 8) j = 0 := z 19 0 12 rfl
  have fR36 : ∀ j, j < 60 → F (am_iR 36) j = 0 := z 22 0 60 rfl
  have fA0 : ∀ j, j < 32 → F (am_iA 0) j = 0 := z 89 0 32 rfl
  have fA3 : ∀ j, j < 7 → F (am_iA 3) j = 0 := z 92 0 7 rfl
  have fA4 : ∀ j, j < 12 → F (am_iA 4) j = 0 := z 93 0 12 rfl
  have fA5 : ∀ j, j < 12 → F (am_iA 5) j = 0 := z 94 0 12 rfl
  have fA6 : ∀ j, j < 12 → F (am_iA 6) j = 0 := z 95 0 12 rfl
  have fA8 : ∀ j, j < 60 → F (am_iA 8) j = 0 := z 97 0 60 rfl
  have fA13 : ∀ j, j < 2 → F (am_iA 13) j = 0 := z 102 1 2 rfl
  have fR0 : F (am_iR 0) 0 = -3 ∧ F (am_iR 0) 1 = 0 ∧ F (am_iR 0) 2 = 3 := d 3 0 3 rfl
  have fA2 : F (am_iA 2) 0 = -3 ∧ F (am_iA 2) 1 = 0 ∧ F (am_iA 2) 2 = 3 := d 91 0 3 rfl
  have r0 : ∀ (lo hi : Int), lo ≤ 0 → 0 ≤ hi → am_rn (0 : Int32) lo hi := fun lo hi h1 h2 => ⟨by rw [Int32.toInt_zero]; exact h1, by rw [Int32.toInt_zero]; exact h2⟩
  refine ⟨am_VR_mk ?_ ?_ ?_ ?_ ?_ ?_ ?_ ?_ ?_ ?_ ?_ ?_ ?_ ?_ ?_ ?_, ⟨rfl, r0 0 60 (by omega) (by omega), ?_⟩, r0 0 3 (by omega) (by omega), ?_⟩
  · exact ⟨rfl, show am_rn (3 : Int32) 0 18 from ⟨by decide, by decide⟩⟩
  · exact ⟨rfl, r0 0 127 (by omega) (by omega)⟩
  · exact ⟨(fA0 30 (by omega)).symm, r0 0 255 (by omega) (by omega)⟩
  · exact ⟨rfl, r0 0 4095 (by omega) (by omega)⟩
  · exact ⟨(fA0 31 (by omega)).symm, r0 0 99 (by omega) (by omega)⟩
  · exact ⟨rfl, r0 0 8 (by omega) (by omega)⟩
  · exact ⟨show am_rn (524287 : Int32) 0 524287 from ⟨by decide, by decide⟩, fun v hv => ⟨fun _ i hi => absurd hi (Nat.not_lt_zero i), fun _ => (by decide +kernel : ∀ v, v < 19 → bt (524287 : Int32) v = true) v hv⟩⟩
  · intro i hi
    have e : i = 0 ∨ i = 1 ∨ i = 2 := by omega
    obtain ⟨a0, a1, a2⟩ := fR0
    obtain ⟨b0, b1, b2⟩ := fA2
    rcases e with rfl | rfl | rfl
    · exact ⟨a0.trans b0.symm, by show am_rn (F (am_iR 0) 0) (-9) 9; rw [show F (am_iR 0) 0 = -3 from a0]; exact ⟨by decide, by decide⟩⟩
    · exact ⟨a1.trans b1.symm, by show am_rn (F (am_iR 0) 1) (-9) 9; rw [show F (am_iR 0) 1 = 0 from a1]; exact ⟨by decide, by decide⟩⟩
    · exact ⟨a2.trans b2.symm, by show am_rn (F (am_iR 0) 2) (-9) 9; rw [show F (am_iR 0) 2 = 3 from a2]; exact ⟨by decide, by decide⟩⟩
  · intro i hi
    refine ⟨(fR1 i hi).trans (fA0 (i) (by omega)).symm, ?_⟩
    show am_rn (F (am_iR 1) i) (0) 2
    rw [fR1 i hi]
    exact r0 (0) 2 (by omega) (by omega)
  · intro i hi
    refine ⟨(fR2 i hi).trans (fA0 (7 + i) (by omega)).symm, ?_⟩
    show am_rn (F (am_iR 2) i) (0) 9
    rw [fR2 i hi]
    exact r0 (0) 9 (by omega) (by omega)
  · intro i hi
    refine ⟨(fR3 i hi).trans (fA3 (i) (by omega)).symm, ?_⟩
    show am_rn (F (am_iR 3) i) (0) 127
    rw [fR3 i hi]
    exact r0 (0) 127 (by omega) (by omega)
  · intro i hi
    refine ⟨(fR4 i hi).trans (fA0 (14 + i) (by omega)).symm, ?_⟩
    show am_rn (F (am_iR 4) i) (-9) 9
    rw [fR4 i hi]
    exact r0 (-9) 9 (by omega) (by omega)
  · intro i hi
    refine ⟨(fR5 i hi).trans (fA0 (22 + i) (by omega)).symm, ?_⟩
    show am_rn (F (am_iR 5) i) (0) 2
    rw [fR5 i hi]
    exact r0 (0) 2 (by omega) (by omega)
  · intro i hi
    refine ⟨(fR6 i hi).trans (fA4 (i) (by omega)).symm, ?_⟩
    show am_rn (F (am_iR 6) i) (0) 9
    rw [fR6 i hi]
    exact r0 (0) 9 (by omega) (by omega)
  · intro i hi
    refine ⟨(fR7 i hi).trans (fA5 (i) (by omega)).symm, ?_⟩
    show am_rn (F (am_iR 7) i) (0) 9
    rw [fR7 i hi]
    exact r0 (0) 9 (by omega) (by omega)
  · intro i hi
    refine ⟨(fR8 i hi).trans (fA6 (i) (by omega)).symm, ?_⟩
    show am_rn (F (am_iR 8) i) (-9) 9
    rw [fR8 i hi]
    exact r0 (-9) 9 (by omega) (by omega)
  · intro i hi
    exact (fR36 i hi).trans (fA8 i hi).symm
  · intro n hn
    exact Or.inl ⟨fA13 n hn, b_0 n⟩
