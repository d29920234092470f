-- ===== PART A: goes FIRST, ahead of the names: the tables' words, and 'selects' of the private methods out of them =====
/-- a private method of a class that the tables say can be made, by its rows of tables_1 -/
def lw_okq (q : MethodName × Nat) : Prop := (q.1.cls ≠ "java/lang/invoke/MethodHandle" ∧ q.1.cls ≠ "java/lang/invoke/VarHandle") ∧ Cond.instantiable q.1.cls q.2 ∈ tables_1 ∧ Cond.privateMethod q.1 ∈ tables_1 ∧ Cond.instanceMethod q.1 ∈ tables_1
theorem lw_p0 : lw_okq (⟨"PlumbCreeds$Telling", "start", "(LPlumbCreeds$Valley;)V"⟩, 7) := ⟨⟨by decide +kernel, by decide +kernel⟩, List.mem_of_getElem? (i := 127) (by decide +kernel), List.mem_of_getElem? (i := 314) (by decide +kernel), List.mem_of_getElem? (i := 315) (by decide +kernel)⟩
theorem lw_p1 : lw_okq (⟨"PlumbCreeds$Telling", "tellAct", "(III)I"⟩, 7) := ⟨⟨by decide +kernel, by decide +kernel⟩, List.mem_of_getElem? (i := 127) (by decide +kernel), List.mem_of_getElem? (i := 345) (by decide +kernel), List.mem_of_getElem? (i := 346) (by decide +kernel)⟩
theorem lw_p2 : lw_okq (⟨"PlumbCreeds$Valley", "build", "(II)V"⟩, 16) := ⟨⟨by decide +kernel, by decide +kernel⟩, List.mem_of_getElem? (i := 19) (by decide +kernel), List.mem_of_getElem? (i := 362) (by decide +kernel), List.mem_of_getElem? (i := 363) (by decide +kernel)⟩
theorem lw_p3 : lw_okq (⟨"PlumbCreeds$Valley", "tryWall", "(II)Z"⟩, 16) := ⟨⟨by decide +kernel, by decide +kernel⟩, List.mem_of_getElem? (i := 19) (by decide +kernel), List.mem_of_getElem? (i := 370) (by decide +kernel), List.mem_of_getElem? (i := 371) (by decide +kernel)⟩
theorem lw_p4 : lw_okq (⟨"PlumbCreeds$Valley", "quake", "()V"⟩, 16) := ⟨⟨by decide +kernel, by decide +kernel⟩, List.mem_of_getElem? (i := 19) (by decide +kernel), List.mem_of_getElem? (i := 382) (by decide +kernel), List.mem_of_getElem? (i := 383) (by decide +kernel)⟩
theorem lw_p5 : lw_okq (⟨"PlumbCreeds", "stepBehind", "(IIII)I"⟩, 7) := ⟨⟨by decide +kernel, by decide +kernel⟩, List.mem_of_getElem? (i := 11) (by decide +kernel), List.mem_of_getElem? (i := 448) (by decide +kernel), List.mem_of_getElem? (i := 449) (by decide +kernel)⟩
theorem lw_p6 : lw_okq (⟨"PlumbCreeds", "mostLeftBy", "(I)I"⟩, 7) := ⟨⟨by decide +kernel, by decide +kernel⟩, List.mem_of_getElem? (i := 11) (by decide +kernel), List.mem_of_getElem? (i := 485) (by decide +kernel), List.mem_of_getElem? (i := 486) (by decide +kernel)⟩
theorem lw_p7 : lw_okq (⟨"PlumbCreeds$Settling", "choiceOf", "(ILPlumbCreeds$Valley;)I"⟩, 5) := ⟨⟨by decide +kernel, by decide +kernel⟩, List.mem_of_getElem? (i := 164) (by decide +kernel), List.mem_of_getElem? (i := 503) (by decide +kernel), List.mem_of_getElem? (i := 504) (by decide +kernel)⟩
theorem lw_p8 : lw_okq (⟨"PlumbCreeds$Settling", "holdersOf", "(II)I"⟩, 5) := ⟨⟨by decide +kernel, by decide +kernel⟩, List.mem_of_getElem? (i := 164) (by decide +kernel), List.mem_of_getElem? (i := 509) (by decide +kernel), List.mem_of_getElem? (i := 510) (by decide +kernel)⟩
theorem lw_p9 : lw_okq (⟨"PlumbCreeds$Settling", "heldAsNumber", "()I"⟩, 5) := ⟨⟨by decide +kernel, by decide +kernel⟩, List.mem_of_getElem? (i := 164) (by decide +kernel), List.mem_of_getElem? (i := 528) (by decide +kernel), List.mem_of_getElem? (i := 529) (by decide +kernel)⟩
theorem lw_p10 : lw_okq (⟨"PlumbCreeds$Settling", "yearsRound", "(ILPlumbCreeds$Valley;)I"⟩, 5) := ⟨⟨by decide +kernel, by decide +kernel⟩, List.mem_of_getElem? (i := 164) (by decide +kernel), List.mem_of_getElem? (i := 532) (by decide +kernel), List.mem_of_getElem? (i := 533) (by decide +kernel)⟩
theorem lw_p11 : lw_okq (⟨"PlumbCreeds", "imageAt", "(I)LPlumbCreeds$Valley;"⟩, 7) := ⟨⟨by decide +kernel, by decide +kernel⟩, List.mem_of_getElem? (i := 11) (by decide +kernel), List.mem_of_getElem? (i := 572) (by decide +kernel), List.mem_of_getElem? (i := 573) (by decide +kernel)⟩
theorem lw_p12 : lw_okq (⟨"PlumbCreeds", "toldOfAll", "(I)I"⟩, 7) := ⟨⟨by decide +kernel, by decide +kernel⟩, List.mem_of_getElem? (i := 11) (by decide +kernel), List.mem_of_getElem? (i := 584) (by decide +kernel), List.mem_of_getElem? (i := 585) (by decide +kernel)⟩
theorem lw_p13 : lw_okq (⟨"PlumbCreeds", "toldOfOne", "(II)I"⟩, 7) := ⟨⟨by decide +kernel, by decide +kernel⟩, List.mem_of_getElem? (i := 11) (by decide +kernel), List.mem_of_getElem? (i := 588) (by decide +kernel), List.mem_of_getElem? (i := 589) (by decide +kernel)⟩
theorem lw_p14 : lw_okq (⟨"PlumbCreeds", "toldOfWall", "(II)I"⟩, 7) := ⟨⟨by decide +kernel, by decide +kernel⟩, List.mem_of_getElem? (i := 11) (by decide +kernel), List.mem_of_getElem? (i := 592) (by decide +kernel), List.mem_of_getElem? (i := 593) (by decide +kernel)⟩
theorem lw_p15 : lw_okq (⟨"PlumbCreeds", "toldOfStair", "(I)I"⟩, 7) := ⟨⟨by decide +kernel, by decide +kernel⟩, List.mem_of_getElem? (i := 11) (by decide +kernel), List.mem_of_getElem? (i := 596) (by decide +kernel), List.mem_of_getElem? (i := 597) (by decide +kernel)⟩
def lw_privs_1 : List (MethodName × Nat) := [(⟨"PlumbCreeds$Telling", "start", "(LPlumbCreeds$Valley;)V"⟩, 7), (⟨"PlumbCreeds$Telling", "tellAct", "(III)I"⟩, 7), (⟨"PlumbCreeds$Valley", "build", "(II)V"⟩, 16), (⟨"PlumbCreeds$Valley", "tryWall", "(II)Z"⟩, 16), (⟨"PlumbCreeds$Valley", "quake", "()V"⟩, 16), (⟨"PlumbCreeds", "stepBehind", "(IIII)I"⟩, 7), (⟨"PlumbCreeds", "mostLeftBy", "(I)I"⟩, 7), (⟨"PlumbCreeds$Settling", "choiceOf", "(ILPlumbCreeds$Valley;)I"⟩, 5), (⟨"PlumbCreeds$Settling", "holdersOf", "(II)I"⟩, 5), (⟨"PlumbCreeds$Settling", "heldAsNumber", "()I"⟩, 5), (⟨"PlumbCreeds$Settling", "yearsRound", "(ILPlumbCreeds$Valley;)I"⟩, 5), (⟨"PlumbCreeds", "imageAt", "(I)LPlumbCreeds$Valley;"⟩, 7), (⟨"PlumbCreeds", "toldOfAll", "(I)I"⟩, 7), (⟨"PlumbCreeds", "toldOfOne", "(II)I"⟩, 7), (⟨"PlumbCreeds", "toldOfWall", "(II)I"⟩, 7), (⟨"PlumbCreeds", "toldOfStair", "(I)I"⟩, 7)]
theorem lw_r1 : ∀ q ∈ lw_privs_1, lw_okq q := List.forall_mem_cons.mpr ⟨lw_p0, List.forall_mem_cons.mpr ⟨lw_p1, List.forall_mem_cons.mpr ⟨lw_p2, List.forall_mem_cons.mpr ⟨lw_p3, List.forall_mem_cons.mpr ⟨lw_p4, List.forall_mem_cons.mpr ⟨lw_p5, List.forall_mem_cons.mpr ⟨lw_p6, List.forall_mem_cons.mpr ⟨lw_p7, List.forall_mem_cons.mpr ⟨lw_p8, List.forall_mem_cons.mpr ⟨lw_p9, List.forall_mem_cons.mpr ⟨lw_p10, List.forall_mem_cons.mpr ⟨lw_p11, List.forall_mem_cons.mpr ⟨lw_p12, List.forall_mem_cons.mpr ⟨lw_p13, List.forall_mem_cons.mpr ⟨lw_p14, List.forall_mem_cons.mpr ⟨lw_p15, fun _ h => absurd h List.not_mem_nil⟩⟩⟩⟩⟩⟩⟩⟩⟩⟩⟩⟩⟩⟩⟩⟩
theorem lw_p16 : lw_okq (⟨"PlumbCreedsModel", "isThere", "(I)Z"⟩, 24) := ⟨⟨by decide +kernel, by decide +kernel⟩, List.mem_of_getElem? (i := 600) (by decide +kernel), List.mem_of_getElem? (i := 705) (by decide +kernel), List.mem_of_getElem? (i := 706) (by decide +kernel)⟩
theorem lw_p17 : lw_okq (⟨"PlumbCreedsModel", "faultOf", "()I"⟩, 24) := ⟨⟨by decide +kernel, by decide +kernel⟩, List.mem_of_getElem? (i := 600) (by decide +kernel), List.mem_of_getElem? (i := 735) (by decide +kernel), List.mem_of_getElem? (i := 736) (by decide +kernel)⟩
theorem lw_p18 : lw_okq (⟨"PlumbCreedsModel", "goYears", "()I"⟩, 24) := ⟨⟨by decide +kernel, by decide +kernel⟩, List.mem_of_getElem? (i := 600) (by decide +kernel), List.mem_of_getElem? (i := 743) (by decide +kernel), List.mem_of_getElem? (i := 744) (by decide +kernel)⟩
theorem lw_p19 : lw_okq (⟨"PlumbCreedsModel", "asNow", "()V"⟩, 24) := ⟨⟨by decide +kernel, by decide +kernel⟩, List.mem_of_getElem? (i := 600) (by decide +kernel), List.mem_of_getElem? (i := 747) (by decide +kernel), List.mem_of_getElem? (i := 748) (by decide +kernel)⟩
theorem lw_p20 : lw_okq (⟨"PlumbCreedsModel", "endYear", "()I"⟩, 24) := ⟨⟨by decide +kernel, by decide +kernel⟩, List.mem_of_getElem? (i := 600) (by decide +kernel), List.mem_of_getElem? (i := 751) (by decide +kernel), List.mem_of_getElem? (i := 752) (by decide +kernel)⟩
theorem lw_p21 : lw_okq (⟨"PlumbCreedsModel", "quake", "()V"⟩, 24) := ⟨⟨by decide +kernel, by decide +kernel⟩, List.mem_of_getElem? (i := 600) (by decide +kernel), List.mem_of_getElem? (i := 755) (by decide +kernel), List.mem_of_getElem? (i := 756) (by decide +kernel)⟩
theorem lw_p22 : lw_okq (⟨"PlumbCreedsModel", "climbUp", "(II)I"⟩, 24) := ⟨⟨by decide +kernel, by decide +kernel⟩, List.mem_of_getElem? (i := 600) (by decide +kernel), List.mem_of_getElem? (i := 759) (by decide +kernel), List.mem_of_getElem? (i := 760) (by decide +kernel)⟩
theorem lw_p23 : lw_okq (⟨"PlumbCreedsModel", "doesBear", "(II)Z"⟩, 24) := ⟨⟨by decide +kernel, by decide +kernel⟩, List.mem_of_getElem? (i := 600) (by decide +kernel), List.mem_of_getElem? (i := 763) (by decide +kernel), List.mem_of_getElem? (i := 764) (by decide +kernel)⟩
theorem lw_p24 : lw_okq (⟨"PlumbCreedsModel", "convert", "(II)I"⟩, 24) := ⟨⟨by decide +kernel, by decide +kernel⟩, List.mem_of_getElem? (i := 600) (by decide +kernel), List.mem_of_getElem? (i := 767) (by decide +kernel), List.mem_of_getElem? (i := 768) (by decide +kernel)⟩
theorem lw_p25 : lw_okq (⟨"PlumbCreedsModel", "build", "(II)I"⟩, 24) := ⟨⟨by decide +kernel, by decide +kernel⟩, List.mem_of_getElem? (i := 600) (by decide +kernel), List.mem_of_getElem? (i := 771) (by decide +kernel), List.mem_of_getElem? (i := 772) (by decide +kernel)⟩
theorem lw_p26 : lw_okq (⟨"PlumbCreedsModel", "barOfYears", "()I"⟩, 24) := ⟨⟨by decide +kernel, by decide +kernel⟩, List.mem_of_getElem? (i := 600) (by decide +kernel), List.mem_of_getElem? (i := 779) (by decide +kernel), List.mem_of_getElem? (i := 780) (by decide +kernel)⟩
theorem lw_p27 : lw_okq (⟨"PlumbCreedsModel", "areThere", "(I)Z"⟩, 24) := ⟨⟨by decide +kernel, by decide +kernel⟩, List.mem_of_getElem? (i := 600) (by decide +kernel), List.mem_of_getElem? (i := 803) (by decide +kernel), List.mem_of_getElem? (i := 804) (by decide +kernel)⟩
theorem lw_p28 : lw_okq (⟨"PlumbCreedsModel", "bearsAll", "(II)Z"⟩, 24) := ⟨⟨by decide +kernel, by decide +kernel⟩, List.mem_of_getElem? (i := 600) (by decide +kernel), List.mem_of_getElem? (i := 807) (by decide +kernel), List.mem_of_getElem? (i := 808) (by decide +kernel)⟩
theorem lw_p29 : lw_okq (⟨"PlumbCreedsModel", "layFar", "(II)V"⟩, 24) := ⟨⟨by decide +kernel, by decide +kernel⟩, List.mem_of_getElem? (i := 600) (by decide +kernel), List.mem_of_getElem? (i := 824) (by decide +kernel), List.mem_of_getElem? (i := 825) (by decide +kernel)⟩
theorem lw_p30 : lw_okq (⟨"PlumbCreedsModel", "fits", "(I)Z"⟩, 24) := ⟨⟨by decide +kernel, by decide +kernel⟩, List.mem_of_getElem? (i := 600) (by decide +kernel), List.mem_of_getElem? (i := 844) (by decide +kernel), List.mem_of_getElem? (i := 845) (by decide +kernel)⟩
theorem lw_p31 : lw_okq (⟨"PlumbCreedsModel", "creedsNow", "()I"⟩, 24) := ⟨⟨by decide +kernel, by decide +kernel⟩, List.mem_of_getElem? (i := 600) (by decide +kernel), List.mem_of_getElem? (i := 859) (by decide +kernel), List.mem_of_getElem? (i := 860) (by decide +kernel)⟩
def lw_privs_2 : List (MethodName × Nat) := [(⟨"PlumbCreedsModel", "isThere", "(I)Z"⟩, 24), (⟨"PlumbCreedsModel", "faultOf", "()I"⟩, 24), (⟨"PlumbCreedsModel", "goYears", "()I"⟩, 24), (⟨"PlumbCreedsModel", "asNow", "()V"⟩, 24), (⟨"PlumbCreedsModel", "endYear", "()I"⟩, 24), (⟨"PlumbCreedsModel", "quake", "()V"⟩, 24), (⟨"PlumbCreedsModel", "climbUp", "(II)I"⟩, 24), (⟨"PlumbCreedsModel", "doesBear", "(II)Z"⟩, 24), (⟨"PlumbCreedsModel", "convert", "(II)I"⟩, 24), (⟨"PlumbCreedsModel", "build", "(II)I"⟩, 24), (⟨"PlumbCreedsModel", "barOfYears", "()I"⟩, 24), (⟨"PlumbCreedsModel", "areThere", "(I)Z"⟩, 24), (⟨"PlumbCreedsModel", "bearsAll", "(II)Z"⟩, 24), (⟨"PlumbCreedsModel", "layFar", "(II)V"⟩, 24), (⟨"PlumbCreedsModel", "fits", "(I)Z"⟩, 24), (⟨"PlumbCreedsModel", "creedsNow", "()I"⟩, 24)]
theorem lw_r2 : ∀ q ∈ lw_privs_2, lw_okq q := List.forall_mem_cons.mpr ⟨lw_p16, List.forall_mem_cons.mpr ⟨lw_p17, List.forall_mem_cons.mpr ⟨lw_p18, List.forall_mem_cons.mpr ⟨lw_p19, List.forall_mem_cons.mpr ⟨lw_p20, List.forall_mem_cons.mpr ⟨lw_p21, List.forall_mem_cons.mpr ⟨lw_p22, List.forall_mem_cons.mpr ⟨lw_p23, List.forall_mem_cons.mpr ⟨lw_p24, List.forall_mem_cons.mpr ⟨lw_p25, List.forall_mem_cons.mpr ⟨lw_p26, List.forall_mem_cons.mpr ⟨lw_p27, List.forall_mem_cons.mpr ⟨lw_p28, List.forall_mem_cons.mpr ⟨lw_p29, List.forall_mem_cons.mpr ⟨lw_p30, List.forall_mem_cons.mpr ⟨lw_p31, fun _ h => absurd h List.not_mem_nil⟩⟩⟩⟩⟩⟩⟩⟩⟩⟩⟩⟩⟩⟩⟩⟩
theorem lw_p32 : lw_okq (⟨"PlumbCreedsModel", "yearOn", "(I)I"⟩, 24) := ⟨⟨by decide +kernel, by decide +kernel⟩, List.mem_of_getElem? (i := 600) (by decide +kernel), List.mem_of_getElem? (i := 863) (by decide +kernel), List.mem_of_getElem? (i := 864) (by decide +kernel)⟩
def lw_privs_3 : List (MethodName × Nat) := [(⟨"PlumbCreedsModel", "yearOn", "(I)I"⟩, 24)]
theorem lw_r3 : ∀ q ∈ lw_privs_3, lw_okq q := List.forall_mem_cons.mpr ⟨lw_p32, fun _ h => absurd h List.not_mem_nil⟩
def lw_privs : List (MethodName × Nat) := lw_privs_1 ++ (lw_privs_2 ++ (lw_privs_3))
def lw_tbl : List Cond := k2_sels lw_privs ++ tables_1
theorem lw_privs_ok : ∀ q ∈ lw_privs, lw_okq q := by
  show ∀ q ∈ lw_privs_1 ++ (lw_privs_2 ++ (lw_privs_3)), lw_okq q
  exact List.forall_mem_append.mpr ⟨lw_r1, List.forall_mem_append.mpr ⟨lw_r2, lw_r3⟩⟩
/-! ===== BEGIN printed: names, fields, word lists, decode rows ===== -/
def RX0 : String := "PlumbCreeds$Pad"
def TX0 : u_T := fun k => match k with
  | 0 => ("PlumbCreeds$Pad", "signs", "LPlumbCreeds$Row;", true)
  | _ => ("PlumbCreeds$Pad", "count", "I", false)
def tyX0 : Nat → FieldType := fun k => match k with
  | 0 => .object "PlumbCreeds$Row"
  | _ => .int
abbrev wsX00 : List Cond := u_ws RX0 TX0 2
theorem nmX0 : ∀ a, a < 2 → ∀ b, b < 2 → a ≠ b → (TX0 a).2.1 ≠ (TX0 b).2.1 := by decide +kernel
theorem tyX0_ok : ∀ k, k < 2 → parseFieldDescriptor (TX0 k).2.2.1 = some (tyX0 k) := by decide +kernel
abbrev cX0_init : ByteArray := prog_2_method_1_code
def yX0_init : MethodName := ⟨RX0, "<init>", "()V"⟩
abbrev cX0_add : ByteArray := prog_2_method_2_code
def yX0_add : MethodName := ⟨RX0, "add", "(I)Z"⟩
abbrev cX0_faultPlace : ByteArray := prog_2_method_3_code
def yX0_faultPlace : MethodName := ⟨RX0, "faultPlace", "()I"⟩
abbrev cX0_roomBehind : ByteArray := prog_2_method_4_code
def yX0_roomBehind : MethodName := ⟨RX0, "roomBehind", "(II)I"⟩
abbrev cX0_isOneSign : ByteArray := prog_2_method_5_code
def yX0_isOneSign : MethodName := ⟨RX0, "isOneSign", "(I)Z"⟩
abbrev cX0_isCreedSign : ByteArray := prog_2_method_6_code
def yX0_isCreedSign : MethodName := ⟨RX0, "isCreedSign", "(I)Z"⟩
abbrev cX0_endsAct : ByteArray := prog_2_method_7_code
def yX0_endsAct : MethodName := ⟨RX0, "endsAct", "(I)Z"⟩
abbrev cX0_kindAt : ByteArray := prog_2_method_8_code
def yX0_kindAt : MethodName := ⟨RX0, "kindAt", "(I)I"⟩
abbrev cX0_oneAt : ByteArray := prog_2_method_9_code
def yX0_oneAt : MethodName := ⟨RX0, "oneAt", "(I)I"⟩
abbrev cX0_targetAt : ByteArray := prog_2_method_10_code
def yX0_targetAt : MethodName := ⟨RX0, "targetAt", "(I)I"⟩
def RX1 : String := "PlumbCreeds$Row"
def TX1 : u_T := fun k => match k with
  | _ => ("PlumbCreeds$Row", "cells", "[I", true)
def tyX1 : Nat → FieldType := fun k => match k with
  | _ => .array .int
abbrev wsX10 : List Cond := u_ws RX1 TX1 1
theorem nmX1 : ∀ a, a < 1 → ∀ b, b < 1 → a ≠ b → (TX1 a).2.1 ≠ (TX1 b).2.1 := by decide +kernel
theorem tyX1_ok : ∀ k, k < 1 → parseFieldDescriptor (TX1 k).2.2.1 = some (tyX1 k) := by decide +kernel
abbrev cX1_init : ByteArray := prog_3_method_1_code
def yX1_init : MethodName := ⟨RX1, "<init>", "(I)V"⟩
abbrev cX1_get : ByteArray := prog_3_method_2_code
def yX1_get : MethodName := ⟨RX1, "get", "(I)I"⟩
abbrev cX1_set : ByteArray := prog_3_method_3_code
def yX1_set : MethodName := ⟨RX1, "set", "(II)V"⟩
abbrev cX1_copyFrom : ByteArray := prog_3_method_4_code
def yX1_copyFrom : MethodName := ⟨RX1, "copyFrom", "(LPlumbCreeds$Row;)V"⟩
abbrev cX1_clear : ByteArray := prog_3_method_5_code
def yX1_clear : MethodName := ⟨RX1, "clear", "()V"⟩
def RX2 : String := "PlumbCreeds$Settling"
def TX2 : u_T := fun k => match k with
  | 0 => ("PlumbCreeds$Settling", "held", "LPlumbCreeds$Row;", true)
  | 1 => ("PlumbCreeds$Settling", "taken", "LPlumbCreeds$Row;", true)
  | 2 => ("PlumbCreeds$Settling", "passed", "LPlumbCreeds$Row;", true)
  | 3 => ("PlumbCreeds$Settling", "againYear", "I", false)
  | _ => ("PlumbCreeds$Settling", "yearsBetween", "I", false)
def tyX2 : Nat → FieldType := fun k => match k with
  | 0 => .object "PlumbCreeds$Row"
  | 1 => .object "PlumbCreeds$Row"
  | 2 => .object "PlumbCreeds$Row"
  | 3 => .int
  | _ => .int
abbrev wsX20 : List Cond := u_ws RX2 TX2 5
theorem nmX2 : ∀ a, a < 5 → ∀ b, b < 5 → a ≠ b → (TX2 a).2.1 ≠ (TX2 b).2.1 := by decide +kernel
theorem tyX2_ok : ∀ k, k < 5 → parseFieldDescriptor (TX2 k).2.2.1 = some (tyX2 k) := by decide +kernel
abbrev cX2_init : ByteArray := prog_4_method_1_code
def yX2_init : MethodName := ⟨RX2, "<init>", "()V"⟩
abbrev cX2_start : ByteArray := prog_4_method_2_code
def yX2_start : MethodName := ⟨RX2, "start", "(LPlumbCreeds$Valley;)V"⟩
abbrev cX2_passYear : ByteArray := prog_4_method_3_code
def yX2_passYear : MethodName := ⟨RX2, "passYear", "(LPlumbCreeds$Valley;)V"⟩
abbrev cX2_choiceOf : ByteArray := prog_4_method_4_code
def yX2_choiceOf : MethodName := ⟨RX2, "choiceOf", "(ILPlumbCreeds$Valley;)I"⟩
abbrev cX2_holdersOf : ByteArray := prog_4_method_5_code
def yX2_holdersOf : MethodName := ⟨RX2, "holdersOf", "(II)I"⟩
abbrev cX2_findAgain : ByteArray := prog_4_method_6_code
def yX2_findAgain : MethodName := ⟨RX2, "findAgain", "(LPlumbCreeds$Valley;)V"⟩
abbrev cX2_yearsRound : ByteArray := prog_4_method_7_code
def yX2_yearsRound : MethodName := ⟨RX2, "yearsRound", "(ILPlumbCreeds$Valley;)I"⟩
abbrev cX2_heldAsNumber : ByteArray := prog_4_method_8_code
def yX2_heldAsNumber : MethodName := ⟨RX2, "heldAsNumber", "()I"⟩
def RX3 : String := "PlumbCreeds$Telling"
def TX3 : u_T := fun k => match k with
  | 0 => ("PlumbCreeds$Telling", "outcome", "LPlumbCreeds$Valley;", true)
  | 1 => ("PlumbCreeds$Telling", "acts", "I", false)
  | 2 => ("PlumbCreeds$Telling", "badAct", "I", false)
  | 3 => ("PlumbCreeds$Telling", "reason", "I", false)
  | 4 => ("PlumbCreeds$Telling", "firstFall", "I", false)
  | 5 => ("PlumbCreeds$Telling", "firstFaller", "I", false)
  | _ => ("PlumbCreeds$Telling", "falls", "I", false)
def tyX3 : Nat → FieldType := fun k => match k with
  | 0 => .object "PlumbCreeds$Valley"
  | 1 => .int
  | 2 => .int
  | 3 => .int
  | 4 => .int
  | 5 => .int
  | _ => .int
abbrev wsX30 : List Cond := u_ws RX3 TX3 7
theorem nmX3 : ∀ a, a < 7 → ∀ b, b < 7 → a ≠ b → (TX3 a).2.1 ≠ (TX3 b).2.1 := by decide +kernel
theorem tyX3_ok : ∀ k, k < 7 → parseFieldDescriptor (TX3 k).2.2.1 = some (tyX3 k) := by decide +kernel
abbrev cX3_init : ByteArray := prog_5_method_1_code
def yX3_init : MethodName := ⟨RX3, "<init>", "()V"⟩
abbrev cX3_start : ByteArray := prog_5_method_2_code
def yX3_start : MethodName := ⟨RX3, "start", "(LPlumbCreeds$Valley;)V"⟩
abbrev cX3_tellYears : ByteArray := prog_5_method_3_code
def yX3_tellYears : MethodName := ⟨RX3, "tellYears", "(LPlumbCreeds$Pad;LPlumbCreeds$Valley;)Z"⟩
abbrev cX3_tellBook : ByteArray := prog_5_method_4_code
def yX3_tellBook : MethodName := ⟨RX3, "tellBook", "(IILPlumbCreeds$Valley;)V"⟩
abbrev cX3_kindDrawn : ByteArray := prog_5_method_5_code
def yX3_kindDrawn : MethodName := ⟨RX3, "kindDrawn", "(I)I"⟩
abbrev cX3_tellAct : ByteArray := prog_5_method_6_code
def yX3_tellAct : MethodName := ⟨RX3, "tellAct", "(III)I"⟩
def RX4 : String := "PlumbCreeds$Valley"
def TX4 : u_T := fun k => match k with
  | 0 => ("PlumbCreeds$Valley", "downOf", "LPlumbCreeds$Row;", true)
  | 1 => ("PlumbCreeds$Valley", "bearing", "I", false)
  | 2 => ("PlumbCreeds$Valley", "people", "I", false)
  | 3 => ("PlumbCreeds$Valley", "creedOf", "LPlumbCreeds$Row;", true)
  | 4 => ("PlumbCreeds$Valley", "doubtOf", "LPlumbCreeds$Row;", true)
  | 5 => ("PlumbCreeds$Valley", "kinOf", "LPlumbCreeds$Row;", true)
  | 6 => ("PlumbCreeds$Valley", "walls", "I", false)
  | 7 => ("PlumbCreeds$Valley", "wallLean", "LPlumbCreeds$Row;", true)
  | 8 => ("PlumbCreeds$Valley", "wallCreed", "LPlumbCreeds$Row;", true)
  | 9 => ("PlumbCreeds$Valley", "stairs", "I", false)
  | 10 => ("PlumbCreeds$Valley", "stairFrom", "LPlumbCreeds$Row;", true)
  | 11 => ("PlumbCreeds$Valley", "stairTo", "LPlumbCreeds$Row;", true)
  | 12 => ("PlumbCreeds$Valley", "stairLean", "LPlumbCreeds$Row;", true)
  | 13 => ("PlumbCreeds$Valley", "year", "I", false)
  | 14 => ("PlumbCreeds$Valley", "sights", "I", false)
  | _ => ("PlumbCreeds$Valley", "possible", "I", false)
def tyX4 : Nat → FieldType := fun k => match k with
  | 0 => .object "PlumbCreeds$Row"
  | 1 => .int
  | 2 => .int
  | 3 => .object "PlumbCreeds$Row"
  | 4 => .object "PlumbCreeds$Row"
  | 5 => .object "PlumbCreeds$Row"
  | 6 => .int
  | 7 => .object "PlumbCreeds$Row"
  | 8 => .object "PlumbCreeds$Row"
  | 9 => .int
  | 10 => .object "PlumbCreeds$Row"
  | 11 => .object "PlumbCreeds$Row"
  | 12 => .object "PlumbCreeds$Row"
  | 13 => .int
  | 14 => .int
  | _ => .int
abbrev wsX40 : List Cond := u_ws RX4 TX4 16
theorem nmX4 : ∀ a, a < 16 → ∀ b, b < 16 → a ≠ b → (TX4 a).2.1 ≠ (TX4 b).2.1 := by decide +kernel
theorem tyX4_ok : ∀ k, k < 16 → parseFieldDescriptor (TX4 k).2.2.1 = some (tyX4 k) := by decide +kernel
abbrev cX4_init : ByteArray := prog_6_method_1_code
def yX4_init : MethodName := ⟨RX4, "<init>", "()V"⟩
abbrev cX4_copyFrom : ByteArray := prog_6_method_2_code
def yX4_copyFrom : MethodName := ⟨RX4, "copyFrom", "(LPlumbCreeds$Valley;)V"⟩
abbrev cX4_isThere : ByteArray := prog_6_method_3_code
def yX4_isThere : MethodName := ⟨RX4, "isThere", "(I)Z"⟩
abbrev cX4_areThere : ByteArray := prog_6_method_4_code
def yX4_areThere : MethodName := ⟨RX4, "areThere", "(I)Z"⟩
abbrev cX4_stands : ByteArray := prog_6_method_5_code
def yX4_stands : MethodName := ⟨RX4, "stands", "(I)Z"⟩
abbrev cX4_wallTold : ByteArray := prog_6_method_6_code
def yX4_wallTold : MethodName := ⟨RX4, "wallTold", "(II)I"⟩
abbrev cX4_setKin : ByteArray := prog_6_method_7_code
def yX4_setKin : MethodName := ⟨RX4, "setKin", "(IIZ)V"⟩
abbrev cX4_kinTwos : ByteArray := prog_6_method_8_code
def yX4_kinTwos : MethodName := ⟨RX4, "kinTwos", "()I"⟩
abbrev cX4_downFor : ByteArray := prog_6_method_9_code
def yX4_downFor : MethodName := ⟨RX4, "downFor", "(I)I"⟩
abbrev cX4_carries : ByteArray := prog_6_method_10_code
def yX4_carries : MethodName := ⟨RX4, "carries", "(II)Z"⟩
abbrev cX4_wallsFor : ByteArray := prog_6_method_11_code
def yX4_wallsFor : MethodName := ⟨RX4, "wallsFor", "(I)I"⟩
abbrev cX4_carriesAll : ByteArray := prog_6_method_12_code
def yX4_carriesAll : MethodName := ⟨RX4, "carriesAll", "(II)Z"⟩
abbrev cX4_leansFor : ByteArray := prog_6_method_13_code
def yX4_leansFor : MethodName := ⟨RX4, "leansFor", "(I)I"⟩
abbrev cX4_stepsFrom : ByteArray := prog_6_method_14_code
def yX4_stepsFrom : MethodName := ⟨RX4, "stepsFrom", "(II)I"⟩
abbrev cX4_doubtOfAll : ByteArray := prog_6_method_15_code
def yX4_doubtOfAll : MethodName := ⟨RX4, "doubtOfAll", "()I"⟩
abbrev cX4_reasonAgainst : ByteArray := prog_6_method_16_code
def yX4_reasonAgainst : MethodName := ⟨RX4, "reasonAgainst", "(III)I"⟩
abbrev cX4_enact : ByteArray := prog_6_method_17_code
def yX4_enact : MethodName := ⟨RX4, "enact", "(III)Z"⟩
abbrev cX4_build : ByteArray := prog_6_method_18_code
def yX4_build : MethodName := ⟨RX4, "build", "(II)V"⟩
abbrev cX4_tryWall : ByteArray := prog_6_method_19_code
def yX4_tryWall : MethodName := ⟨RX4, "tryWall", "(II)Z"⟩
abbrev cX4_quake : ByteArray := prog_6_method_20_code
def yX4_quake : MethodName := ⟨RX4, "quake", "()V"⟩
def RX5 : String := "PlumbCreeds"
def TX5 : u_T := fun k => match k with
  | 0 => ("PlumbCreeds", "now", "LPlumbCreeds$Valley;", true)
  | 1 => ("PlumbCreeds", "pad", "LPlumbCreeds$Pad;", true)
  | 2 => ("PlumbCreeds", "telling", "LPlumbCreeds$Telling;", true)
  | 3 => ("PlumbCreeds", "settling", "LPlumbCreeds$Settling;", true)
  | 4 => ("PlumbCreeds", "firstImage", "LPlumbCreeds$Valley;", true)
  | 5 => ("PlumbCreeds", "secondImage", "LPlumbCreeds$Valley;", true)
  | _ => ("PlumbCreeds", "keptImages", "I", false)
def tyX5 : Nat → FieldType := fun k => match k with
  | 0 => .object "PlumbCreeds$Valley"
  | 1 => .object "PlumbCreeds$Pad"
  | 2 => .object "PlumbCreeds$Telling"
  | 3 => .object "PlumbCreeds$Settling"
  | 4 => .object "PlumbCreeds$Valley"
  | 5 => .object "PlumbCreeds$Valley"
  | _ => .int
abbrev wsX50 : List Cond := u_ws RX5 TX5 7
theorem nmX5 : ∀ a, a < 7 → ∀ b, b < 7 → a ≠ b → (TX5 a).2.1 ≠ (TX5 b).2.1 := by decide +kernel
theorem tyX5_ok : ∀ k, k < 7 → parseFieldDescriptor (TX5 k).2.2.1 = some (tyX5 k) := by decide +kernel
abbrev cX5_init : ByteArray := prog_1_method_1_code
def yX5_init : MethodName := ⟨RX5, "<init>", "()V"⟩
abbrev cX5_creed : ByteArray := prog_1_method_2_code
def yX5_creed : MethodName := ⟨RX5, "creed", "(II)I"⟩
abbrev cX5_bear : ByteArray := prog_1_method_3_code
def yX5_bear : MethodName := ⟨RX5, "bear", "(I)I"⟩
abbrev cX5_one : ByteArray := prog_1_method_4_code
def yX5_one : MethodName := ⟨RX5, "one", "(III)I"⟩
abbrev cX5_leave : ByteArray := prog_1_method_5_code
def yX5_leave : MethodName := ⟨RX5, "leave", "(I)I"⟩
abbrev cX5_kin : ByteArray := prog_1_method_6_code
def yX5_kin : MethodName := ⟨RX5, "kin", "(IIZ)I"⟩
abbrev cX5_stair : ByteArray := prog_1_method_7_code
def yX5_stair : MethodName := ⟨RX5, "stair", "(IIII)I"⟩
abbrev cX5_say : ByteArray := prog_1_method_8_code
def yX5_say : MethodName := ⟨RX5, "say", "(I)I"⟩
abbrev cX5_wipe : ByteArray := prog_1_method_9_code
def yX5_wipe : MethodName := ⟨RX5, "wipe", "()I"⟩
abbrev cX5_fault : ByteArray := prog_1_method_10_code
def yX5_fault : MethodName := ⟨RX5, "fault", "()I"⟩
abbrev cX5_judge : ByteArray := prog_1_method_11_code
def yX5_judge : MethodName := ⟨RX5, "judge", "(I)I"⟩
abbrev cX5_done : ByteArray := prog_1_method_12_code
def yX5_done : MethodName := ⟨RX5, "done", "()I"⟩
abbrev cX5_behind : ByteArray := prog_1_method_13_code
def yX5_behind : MethodName := ⟨RX5, "behind", "(II)I"⟩
abbrev cX5_wall : ByteArray := prog_1_method_14_code
def yX5_wall : MethodName := ⟨RX5, "wall", "(II)I"⟩
abbrev cX5_fell : ByteArray := prog_1_method_15_code
def yX5_fell : MethodName := ⟨RX5, "fell", "(I)I"⟩
abbrev cX5_bears : ByteArray := prog_1_method_16_code
def yX5_bears : MethodName := ⟨RX5, "bears", "(I)I"⟩
abbrev cX5_all : ByteArray := prog_1_method_17_code
def yX5_all : MethodName := ⟨RX5, "all", "(II)I"⟩
abbrev cX5_wedges : ByteArray := prog_1_method_18_code
def yX5_wedges : MethodName := ⟨RX5, "wedges", "(III)I"⟩
abbrev cX5_meet : ByteArray := prog_1_method_19_code
def yX5_meet : MethodName := ⟨RX5, "meet", "(IIII)I"⟩
abbrev cX5_ways : ByteArray := prog_1_method_20_code
def yX5_ways : MethodName := ⟨RX5, "ways", "(IIII)I"⟩
abbrev cX5_reach : ByteArray := prog_1_method_21_code
def yX5_reach : MethodName := ⟨RX5, "reach", "(II)I"⟩
abbrev cX5_seen : ByteArray := prog_1_method_22_code
def yX5_seen : MethodName := ⟨RX5, "seen", "(II)I"⟩
abbrev cX5_forget : ByteArray := prog_1_method_23_code
def yX5_forget : MethodName := ⟨RX5, "forget", "()I"⟩
abbrev cX5_downs : ByteArray := prog_1_method_24_code
def yX5_downs : MethodName := ⟨RX5, "downs", "(I)I"⟩
abbrev cX5_next : ByteArray := prog_1_method_25_code
def yX5_next : MethodName := ⟨RX5, "next", "(I)I"⟩
abbrev cX5_settle : ByteArray := prog_1_method_26_code
def yX5_settle : MethodName := ⟨RX5, "settle", "(II)I"⟩
abbrev cX5_again : ByteArray := prog_1_method_27_code
def yX5_again : MethodName := ⟨RX5, "again", "(I)I"⟩
abbrev cX5_climb : ByteArray := prog_1_method_28_code
def yX5_climb : MethodName := ⟨RX5, "climb", "(IIIIII)J"⟩
abbrev cX5_book : ByteArray := prog_1_method_29_code
def yX5_book : MethodName := ⟨RX5, "book", "(III)I"⟩
abbrev cX5_image : ByteArray := prog_1_method_30_code
def yX5_image : MethodName := ⟨RX5, "image", "(I)I"⟩
abbrev cX5_restore : ByteArray := prog_1_method_31_code
def yX5_restore : MethodName := ⟨RX5, "restore", "(I)I"⟩
abbrev cX5_told : ByteArray := prog_1_method_32_code
def yX5_told : MethodName := ⟨RX5, "told", "(I)I"⟩
abbrev cX5_isIn : ByteArray := prog_1_method_33_code
def yX5_isIn : MethodName := ⟨RX5, "isIn", "(III)Z"⟩
abbrev cX5_isLean : ByteArray := prog_1_method_34_code
def yX5_isLean : MethodName := ⟨RX5, "isLean", "(I)Z"⟩
abbrev cX5_isPlace : ByteArray := prog_1_method_35_code
def yX5_isPlace : MethodName := ⟨RX5, "isPlace", "(I)Z"⟩
abbrev cX5_has : ByteArray := prog_1_method_36_code
def yX5_has : MethodName := ⟨RX5, "has", "(II)Z"⟩
abbrev cX5_leastOf : ByteArray := prog_1_method_37_code
def yX5_leastOf : MethodName := ⟨RX5, "leastOf", "(I)I"⟩
abbrev cX5_nearestOf : ByteArray := prog_1_method_38_code
def yX5_nearestOf : MethodName := ⟨RX5, "nearestOf", "(II)I"⟩
abbrev cX5_downsThat : ByteArray := prog_1_method_39_code
def yX5_downsThat : MethodName := ⟨RX5, "downsThat", "(II)I"⟩
abbrev cX5_mostLeftBy : ByteArray := prog_1_method_40_code
def yX5_mostLeftBy : MethodName := ⟨RX5, "mostLeftBy", "(I)I"⟩
abbrev cX5_stepBehind : ByteArray := prog_1_method_41_code
def yX5_stepBehind : MethodName := ⟨RX5, "stepBehind", "(IIII)I"⟩
abbrev cX5_lowestTerm : ByteArray := prog_1_method_42_code
def yX5_lowestTerm : MethodName := ⟨RX5, "lowestTerm", "(JJI)J"⟩
abbrev cX5_commonDivisor : ByteArray := prog_1_method_43_code
def yX5_commonDivisor : MethodName := ⟨RX5, "commonDivisor", "(JJ)J"⟩
abbrev cX5_imageAt : ByteArray := prog_1_method_44_code
def yX5_imageAt : MethodName := ⟨RX5, "imageAt", "(I)LPlumbCreeds$Valley;"⟩
abbrev cX5_toldOfAll : ByteArray := prog_1_method_45_code
def yX5_toldOfAll : MethodName := ⟨RX5, "toldOfAll", "(I)I"⟩
abbrev cX5_toldOfOne : ByteArray := prog_1_method_46_code
def yX5_toldOfOne : MethodName := ⟨RX5, "toldOfOne", "(II)I"⟩
abbrev cX5_toldOfWall : ByteArray := prog_1_method_47_code
def yX5_toldOfWall : MethodName := ⟨RX5, "toldOfWall", "(II)I"⟩
abbrev cX5_toldOfStair : ByteArray := prog_1_method_48_code
def yX5_toldOfStair : MethodName := ⟨RX5, "toldOfStair", "(I)I"⟩
def RX6 : String := "PlumbCreedsModel"
def TX6 : u_T := fun k => match k with
  | 0 => ("PlumbCreedsModel", "book", "[I", true)
  | 1 => ("PlumbCreedsModel", "now", "[I", true)
  | 2 => ("PlumbCreedsModel", "there", "I", false)
  | 3 => ("PlumbCreedsModel", "down", "[I", true)
  | 4 => ("PlumbCreedsModel", "bear", "I", false)
  | 5 => ("PlumbCreedsModel", "kin", "[I", true)
  | 6 => ("PlumbCreedsModel", "stairs", "I", false)
  | 7 => ("PlumbCreedsModel", "from", "[I", true)
  | 8 => ("PlumbCreedsModel", "to", "[I", true)
  | 9 => ("PlumbCreedsModel", "slope", "[I", true)
  | 10 => ("PlumbCreedsModel", "sights", "I", false)
  | 11 => ("PlumbCreedsModel", "sight", "[I", true)
  | 12 => ("PlumbCreedsModel", "signs", "I", false)
  | 13 => ("PlumbCreedsModel", "pad", "[I", true)
  | 14 => ("PlumbCreedsModel", "falls", "I", false)
  | 15 => ("PlumbCreedsModel", "fellAt", "I", false)
  | 16 => ("PlumbCreedsModel", "fellWho", "I", false)
  | 17 => ("PlumbCreedsModel", "reason", "I", false)
  | 18 => ("PlumbCreedsModel", "acts", "I", false)
  | 19 => ("PlumbCreedsModel", "far", "[I", true)
  | 20 => ("PlumbCreedsModel", "counts", "[I", true)
  | 21 => ("PlumbCreedsModel", "year", "[I", true)
  | 22 => ("PlumbCreedsModel", "image", "[I", true)
  | _ => ("PlumbCreedsModel", "isKept", "[Z", true)
def tyX6 : Nat → FieldType := fun k => match k with
  | 0 => .array .int
  | 1 => .array .int
  | 2 => .int
  | 3 => .array .int
  | 4 => .int
  | 5 => .array .int
  | 6 => .int
  | 7 => .array .int
  | 8 => .array .int
  | 9 => .array .int
  | 10 => .int
  | 11 => .array .int
  | 12 => .int
  | 13 => .array .int
  | 14 => .int
  | 15 => .int
  | 16 => .int
  | 17 => .int
  | 18 => .int
  | 19 => .array .int
  | 20 => .array .int
  | 21 => .array .int
  | 22 => .array .int
  | _ => .array .boolean
abbrev wsX60 : List Cond := u_ws RX6 TX6 24
theorem nmX6 : ∀ a, a < 24 → ∀ b, b < 24 → a ≠ b → (TX6 a).2.1 ≠ (TX6 b).2.1 := by decide +kernel
theorem tyX6_ok : ∀ k, k < 24 → parseFieldDescriptor (TX6 k).2.2.1 = some (tyX6 k) := by decide +kernel
abbrev cX6_init : ByteArray := prog_8_method_1_code
def yX6_init : MethodName := ⟨RX6, "<init>", "()V"⟩
abbrev cX6_in : ByteArray := prog_8_method_2_code
def yX6_in : MethodName := ⟨RX6, "in", "(III)Z"⟩
abbrev cX6_has : ByteArray := prog_8_method_3_code
def yX6_has : MethodName := ⟨RX6, "has", "(II)Z"⟩
abbrev cX6_bits : ByteArray := prog_8_method_4_code
def yX6_bits : MethodName := ⟨RX6, "bits", "(I)I"⟩
abbrev cX6_isThere : ByteArray := prog_8_method_5_code
def yX6_isThere : MethodName := ⟨RX6, "isThere", "(I)Z"⟩
abbrev cX6_isLean : ByteArray := prog_8_method_6_code
def yX6_isLean : MethodName := ⟨RX6, "isLean", "(I)Z"⟩
abbrev cX6_doesBear : ByteArray := prog_8_method_7_code
def yX6_doesBear : MethodName := ⟨RX6, "doesBear", "(II)Z"⟩
abbrev cX6_creed : ByteArray := prog_8_method_8_code
def yX6_creed : MethodName := ⟨RX6, "creed", "(II)I"⟩
abbrev cX6_bear : ByteArray := prog_8_method_9_code
def yX6_bear : MethodName := ⟨RX6, "bear", "(I)I"⟩
abbrev cX6_one : ByteArray := prog_8_method_10_code
def yX6_one : MethodName := ⟨RX6, "one", "(III)I"⟩
abbrev cX6_leave : ByteArray := prog_8_method_11_code
def yX6_leave : MethodName := ⟨RX6, "leave", "(I)I"⟩
abbrev cX6_kin : ByteArray := prog_8_method_12_code
def yX6_kin : MethodName := ⟨RX6, "kin", "(IIZ)I"⟩
abbrev cX6_isPlace : ByteArray := prog_8_method_13_code
def yX6_isPlace : MethodName := ⟨RX6, "isPlace", "(I)Z"⟩
abbrev cX6_stair : ByteArray := prog_8_method_14_code
def yX6_stair : MethodName := ⟨RX6, "stair", "(IIII)I"⟩
abbrev cX6_say : ByteArray := prog_8_method_15_code
def yX6_say : MethodName := ⟨RX6, "say", "(I)I"⟩
abbrev cX6_wipe : ByteArray := prog_8_method_16_code
def yX6_wipe : MethodName := ⟨RX6, "wipe", "()I"⟩
abbrev cX6_faultOf : ByteArray := prog_8_method_17_code
def yX6_faultOf : MethodName := ⟨RX6, "faultOf", "()I"⟩
abbrev cX6_fault : ByteArray := prog_8_method_18_code
def yX6_fault : MethodName := ⟨RX6, "fault", "()I"⟩
abbrev cX6_asNow : ByteArray := prog_8_method_19_code
def yX6_asNow : MethodName := ⟨RX6, "asNow", "()V"⟩
abbrev cX6_build : ByteArray := prog_8_method_20_code
def yX6_build : MethodName := ⟨RX6, "build", "(II)I"⟩
abbrev cX6_climbUp : ByteArray := prog_8_method_21_code
def yX6_climbUp : MethodName := ⟨RX6, "climbUp", "(II)I"⟩
abbrev cX6_convert : ByteArray := prog_8_method_22_code
def yX6_convert : MethodName := ⟨RX6, "convert", "(II)I"⟩
abbrev cX6_quake : ByteArray := prog_8_method_23_code
def yX6_quake : MethodName := ⟨RX6, "quake", "()V"⟩
abbrev cX6_endYear : ByteArray := prog_8_method_24_code
def yX6_endYear : MethodName := ⟨RX6, "endYear", "()I"⟩
abbrev cX6_goYears : ByteArray := prog_8_method_25_code
def yX6_goYears : MethodName := ⟨RX6, "goYears", "()I"⟩
abbrev cX6_judge : ByteArray := prog_8_method_26_code
def yX6_judge : MethodName := ⟨RX6, "judge", "(I)I"⟩
abbrev cX6_barOfYears : ByteArray := prog_8_method_27_code
def yX6_barOfYears : MethodName := ⟨RX6, "barOfYears", "()I"⟩
abbrev cX6_done : ByteArray := prog_8_method_28_code
def yX6_done : MethodName := ⟨RX6, "done", "()I"⟩
abbrev cX6_behind : ByteArray := prog_8_method_29_code
def yX6_behind : MethodName := ⟨RX6, "behind", "(II)I"⟩
abbrev cX6_wall : ByteArray := prog_8_method_30_code
def yX6_wall : MethodName := ⟨RX6, "wall", "(II)I"⟩
abbrev cX6_fell : ByteArray := prog_8_method_31_code
def yX6_fell : MethodName := ⟨RX6, "fell", "(I)I"⟩
abbrev cX6_bears : ByteArray := prog_8_method_32_code
def yX6_bears : MethodName := ⟨RX6, "bears", "(I)I"⟩
abbrev cX6_areThere : ByteArray := prog_8_method_33_code
def yX6_areThere : MethodName := ⟨RX6, "areThere", "(I)Z"⟩
abbrev cX6_bearsAll : ByteArray := prog_8_method_34_code
def yX6_bearsAll : MethodName := ⟨RX6, "bearsAll", "(II)Z"⟩
abbrev cX6_all : ByteArray := prog_8_method_35_code
def yX6_all : MethodName := ⟨RX6, "all", "(II)I"⟩
abbrev cX6_wedges : ByteArray := prog_8_method_36_code
def yX6_wedges : MethodName := ⟨RX6, "wedges", "(III)I"⟩
abbrev cX6_meet : ByteArray := prog_8_method_37_code
def yX6_meet : MethodName := ⟨RX6, "meet", "(IIII)I"⟩
abbrev cX6_layFar : ByteArray := prog_8_method_38_code
def yX6_layFar : MethodName := ⟨RX6, "layFar", "(II)V"⟩
abbrev cX6_ways : ByteArray := prog_8_method_39_code
def yX6_ways : MethodName := ⟨RX6, "ways", "(IIII)I"⟩
abbrev cX6_reach : ByteArray := prog_8_method_40_code
def yX6_reach : MethodName := ⟨RX6, "reach", "(II)I"⟩
abbrev cX6_seen : ByteArray := prog_8_method_41_code
def yX6_seen : MethodName := ⟨RX6, "seen", "(II)I"⟩
abbrev cX6_forget : ByteArray := prog_8_method_42_code
def yX6_forget : MethodName := ⟨RX6, "forget", "()I"⟩
abbrev cX6_howIs : ByteArray := prog_8_method_43_code
def yX6_howIs : MethodName := ⟨RX6, "howIs", "(II)I"⟩
abbrev cX6_fits : ByteArray := prog_8_method_44_code
def yX6_fits : MethodName := ⟨RX6, "fits", "(I)Z"⟩
abbrev cX6_downs : ByteArray := prog_8_method_45_code
def yX6_downs : MethodName := ⟨RX6, "downs", "(I)I"⟩
abbrev cX6_next : ByteArray := prog_8_method_46_code
def yX6_next : MethodName := ⟨RX6, "next", "(I)I"⟩
abbrev cX6_creedsNow : ByteArray := prog_8_method_47_code
def yX6_creedsNow : MethodName := ⟨RX6, "creedsNow", "()I"⟩
abbrev cX6_creedIn : ByteArray := prog_8_method_48_code
def yX6_creedIn : MethodName := ⟨RX6, "creedIn", "(II)I"⟩
abbrev cX6_yearOn : ByteArray := prog_8_method_49_code
def yX6_yearOn : MethodName := ⟨RX6, "yearOn", "(I)I"⟩
abbrev cX6_settle : ByteArray := prog_8_method_50_code
def yX6_settle : MethodName := ⟨RX6, "settle", "(II)I"⟩
abbrev cX6_again : ByteArray := prog_8_method_51_code
def yX6_again : MethodName := ⟨RX6, "again", "(I)I"⟩
abbrev cX6_part : ByteArray := prog_8_method_52_code
def yX6_part : MethodName := ⟨RX6, "part", "(JJI)J"⟩
abbrev cX6_climb : ByteArray := prog_8_method_53_code
def yX6_climb : MethodName := ⟨RX6, "climb", "(IIIIII)J"⟩
abbrev cX6_book : ByteArray := prog_8_method_54_code
def yX6_book : MethodName := ⟨RX6, "book", "(III)I"⟩
abbrev cX6_image : ByteArray := prog_8_method_55_code
def yX6_image : MethodName := ⟨RX6, "image", "(I)I"⟩
abbrev cX6_restore : ByteArray := prog_8_method_56_code
def yX6_restore : MethodName := ⟨RX6, "restore", "(I)I"⟩
abbrev cX6_told : ByteArray := prog_8_method_57_code
def yX6_told : MethodName := ⟨RX6, "told", "(I)I"⟩
def RJ6 : String := "java/lang/Integer"
def TJ6 : u_T := fun k => match k with
  | _ => ("", "", "", false)
def tyJ6 : Nat → FieldType := fun k => match k with
  | _ => .int
abbrev wsJ60 : List Cond := u_ws RJ6 TJ6 0
theorem nmJ6 : ∀ a, a < 0 → ∀ b, b < 0 → a ≠ b → (TJ6 a).2.1 ≠ (TJ6 b).2.1 := by decide +kernel
theorem tyJ6_ok : ∀ k, k < 0 → parseFieldDescriptor (TJ6 k).2.2.1 = some (tyJ6 k) := by decide +kernel
abbrev cJ6_bitCount_0f7a4 : ByteArray := prog_9_method_49_code
def yJ6_bitCount_0f7a4 : MethodName := ⟨RJ6, "bitCount", "(I)I"⟩
def RJ9 : String := "java/lang/Math"
def TJ9 : u_T := fun k => match k with
  | _ => ("", "", "", false)
def tyJ9 : Nat → FieldType := fun k => match k with
  | _ => .int
abbrev wsJ90 : List Cond := u_ws RJ9 TJ9 0
theorem nmJ9 : ∀ a, a < 0 → ∀ b, b < 0 → a ≠ b → (TJ9 a).2.1 ≠ (TJ9 b).2.1 := by decide +kernel
theorem tyJ9_ok : ∀ k, k < 0 → parseFieldDescriptor (TJ9 k).2.2.1 = some (tyJ9 k) := by decide +kernel
abbrev cJ9_abs_0f7a4 : ByteArray := prog_10_method_59_code
def yJ9_abs_0f7a4 : MethodName := ⟨RJ9, "abs", "(I)I"⟩
abbrev cJ9_max_7cf53 : ByteArray := prog_10_method_65_code
def yJ9_max_7cf53 : MethodName := ⟨RJ9, "max", "(II)I"⟩
abbrev cJ9_max_f86c9 : ByteArray := prog_10_method_66_code
def yJ9_max_f86c9 : MethodName := ⟨RJ9, "max", "(JJ)J"⟩
def RL : String := "PlumbCreedsLaw"
abbrev cL_law : ByteArray := code
def yL_law : MethodName := ⟨RL, "law", "([I)Z"⟩
abbrev vwCl : List vw_C := [(RX0, TX0, 2), (RX1, TX1, 1), (RX2, TX2, 5), (RX3, TX3, 7), (RX4, TX4, 16), (RX5, TX5, 7), (RX6, TX6, 24)]
