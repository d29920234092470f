section
-- ===== PART A: goes FIRST, ahead of the names: the tables' words, and 'selects' of the private methods out of them =====
/-- a private method of a class that the tables say can be made, by its rows of tables_1 -/
def lw_okq (q : MethodName × Nat) : Prop := (q.1.cls ≠ "java/lang/invoke/MethodHandle" ∧ q.1.cls ≠ "java/lang/invoke/VarHandle") ∧ Cond.instantiable q.1.cls q.2 ∈ tables_1 ∧ Cond.privateMethod q.1 ∈ tables_1 ∧ Cond.instanceMethod q.1 ∈ tables_1
theorem lw_p0 : lw_okq (⟨"PlumbCreeds$Telling", "start", "(LPlumbCreeds$Valley;)V"⟩, 7) := ⟨⟨by decide +kernel, by decide +kernel⟩, List.mem_of_getElem? (i := 127) (by decide +kernel), List.mem_of_getElem? (i := 314) (by decide +kernel), List.mem_of_getElem? (i := 315) (by decide +kernel)⟩
theorem lw_p1 : lw_okq (⟨"PlumbCreeds$Telling", "tellAct", "(III)I"⟩, 7) := ⟨⟨by decide +kernel, by decide +kernel⟩, List.mem_of_getElem? (i := 127) (by decide +kernel), List.mem_of_getElem? (i := 345) (by decide +kernel), List.mem_of_getElem? (i := 346) (by decide +kernel)⟩
theorem lw_p2 : lw_okq (⟨"PlumbCreeds$Valley", "build", "(II)V"⟩, 16) := ⟨⟨by decide +kernel, by decide +kernel⟩, List.mem_of_getElem? (i := 19) (by decide +kernel), List.mem_of_getElem? (i := 362) (by decide +kernel), List.mem_of_getElem? (i := 363) (by decide +kernel)⟩
theorem lw_p3 : lw_okq (⟨"PlumbCreeds$Valley", "tryWall", "(II)Z"⟩, 16) := ⟨⟨by decide +kernel, by decide +kernel⟩, List.mem_of_getElem? (i := 19) (by decide +kernel), List.mem_of_getElem? (i := 370) (by decide +kernel), List.mem_of_getElem? (i := 371) (by decide +kernel)⟩
theorem lw_p4 : lw_okq (⟨"PlumbCreeds$Valley", "quake", "()V"⟩, 16) := ⟨⟨by decide +kernel, by decide +kernel⟩, List.mem_of_getElem? (i := 19) (by decide +kernel), List.mem_of_getElem? (i := 382) (by decide +kernel), List.mem_of_getElem? (i := 383) (by decide +kernel)⟩
theorem lw_p5 : lw_okq (⟨"PlumbCreeds", "stepBehind", "(IIII)I"⟩, 7) := ⟨⟨by decide +kernel, by decide +kernel⟩, List.mem_of_getElem? (i := 11) (by decide +kernel), List.mem_of_getElem? (i := 448) (by decide +kernel), List.mem_of_getElem? (i := 449) (by decide +kernel)⟩
theorem lw_p6 : lw_okq (⟨"PlumbCreeds", "mostLeftBy", "(I)I"⟩, 7) := ⟨⟨by decide +kernel, by decide +kernel⟩, List.mem_of_getElem? (i := 11) (by decide +kernel), List.mem_of_getElem? (i := 485) (by decide +kernel), List.mem_of_getElem? (i := 486) (by decide +kernel)⟩
theorem lw_p7 : lw_okq (⟨"PlumbCreeds$Settling", "choiceOf", "(ILPlumbCreeds$Valley;)I"⟩, 5) := ⟨⟨by decide +kernel, by decide +kernel⟩, List.mem_of_getElem? (i := 164) (by decide +kernel), List.mem_of_getElem? (i := 503) (by decide +kernel), List.mem_of_getElem? (i := 504) (by decide +kernel)⟩
theorem lw_p8 : lw_okq (⟨"PlumbCreeds$Settling", "holdersOf", "(II)I"⟩, 5) := ⟨⟨by decide +kernel, by decide +kernel⟩, List.mem_of_getElem? (i := 164) (by decide +kernel), List.mem_of_getElem? (i := 509) (by decide +kernel), List.mem_of_getElem? (i := 510) (by decide +kernel)⟩
theorem lw_p9 : lw_okq (⟨"PlumbCreeds$Settling", "heldAsNumber", "()I"⟩, 5) := ⟨⟨by decide +kernel, by decide +kernel⟩, List.mem_of_getElem? (i := 164) (by decide +kernel), List.mem_of_getElem? (i := 524) (by decide +kernel), List.mem_of_getElem? (i := 525) (by decide +kernel)⟩
theorem lw_p10 : lw_okq (⟨"PlumbCreeds", "imageAt", "(I)LPlumbCreeds$Valley;"⟩, 7) := ⟨⟨by decide +kernel, by decide +kernel⟩, List.mem_of_getElem? (i := 11) (by decide +kernel), List.mem_of_getElem? (i := 564) (by decide +kernel), List.mem_of_getElem? (i := 565) (by decide +kernel)⟩
theorem lw_p11 : lw_okq (⟨"PlumbCreeds", "toldOfAll", "(I)I"⟩, 7) := ⟨⟨by decide +kernel, by decide +kernel⟩, List.mem_of_getElem? (i := 11) (by decide +kernel), List.mem_of_getElem? (i := 576) (by decide +kernel), List.mem_of_getElem? (i := 577) (by decide +kernel)⟩
theorem lw_p12 : lw_okq (⟨"PlumbCreeds", "toldOfOne", "(II)I"⟩, 7) := ⟨⟨by decide +kernel, by decide +kernel⟩, List.mem_of_getElem? (i := 11) (by decide +kernel), List.mem_of_getElem? (i := 580) (by decide +kernel), List.mem_of_getElem? (i := 581) (by decide +kernel)⟩
theorem lw_p13 : lw_okq (⟨"PlumbCreeds", "toldOfWall", "(II)I"⟩, 7) := ⟨⟨by decide +kernel, by decide +kernel⟩, List.mem_of_getElem? (i := 11) (by decide +kernel), List.mem_of_getElem? (i := 584) (by decide +kernel), List.mem_of_getElem? (i := 585) (by decide +kernel)⟩
theorem lw_p14 : lw_okq (⟨"PlumbCreeds", "toldOfStair", "(I)I"⟩, 7) := ⟨⟨by decide +kernel, by decide +kernel⟩, List.mem_of_getElem? (i := 11) (by decide +kernel), List.mem_of_getElem? (i := 588) (by decide +kernel), List.mem_of_getElem? (i := 589) (by decide +kernel)⟩
theorem lw_p15 : lw_okq (⟨"PlumbCreedsModel", "isThere", "(I)Z"⟩, 24) := ⟨⟨by decide +kernel, by decide +kernel⟩, List.mem_of_getElem? (i := 592) (by decide +kernel), List.mem_of_getElem? (i := 697) (by decide +kernel), List.mem_of_getElem? (i := 698) (by decide +kernel)⟩
def lw_privs_1 : List (MethodName × Nat) := [(⟨"PlumbCreeds$Telling", "start", "(LPlumbCreeds$Valley;)V"⟩, 7), (⟨"PlumbCreeds$Telling", "tellAct", "(III)I"⟩, 7), (⟨"PlumbCreeds$Valley", "build", "(II)V"⟩, 16), (⟨"PlumbCreeds$Valley", "tryWall", "(II)Z"⟩, 16), (⟨"PlumbCreeds$Valley", "quake", "()V"⟩, 16), (⟨"PlumbCreeds", "stepBehind", "(IIII)I"⟩, 7), (⟨"PlumbCreeds", "mostLeftBy", "(I)I"⟩, 7), (⟨"PlumbCreeds$Settling", "choiceOf", "(ILPlumbCreeds$Valley;)I"⟩, 5), (⟨"PlumbCreeds$Settling", "holdersOf", "(II)I"⟩, 5), (⟨"PlumbCreeds$Settling", "heldAsNumber", "()I"⟩, 5), (⟨"PlumbCreeds", "imageAt", "(I)LPlumbCreeds$Valley;"⟩, 7), (⟨"PlumbCreeds", "toldOfAll", "(I)I"⟩, 7), (⟨"PlumbCreeds", "toldOfOne", "(II)I"⟩, 7), (⟨"PlumbCreeds", "toldOfWall", "(II)I"⟩, 7), (⟨"PlumbCreeds", "toldOfStair", "(I)I"⟩, 7), (⟨"PlumbCreedsModel", "isThere", "(I)Z"⟩, 24)]
theorem lw_r1 : ∀ q ∈ lw_privs_1, lw_okq q := List.forall_mem_cons.mpr ⟨lw_p0, List.forall_mem_cons.mpr ⟨lw_p1, List.forall_mem_cons.mpr ⟨lw_p2, List.forall_mem_cons.mpr ⟨lw_p3, List.forall_mem_cons.mpr ⟨lw_p4, List.forall_mem_cons.mpr ⟨lw_p5, List.forall_mem_cons.mpr ⟨lw_p6, List.forall_mem_cons.mpr ⟨lw_p7, List.forall_mem_cons.mpr ⟨lw_p8, List.forall_mem_cons.mpr ⟨lw_p9, List.forall_mem_cons.mpr ⟨lw_p10, List.forall_mem_cons.mpr ⟨lw_p11, List.forall_mem_cons.mpr ⟨lw_p12, List.forall_mem_cons.mpr ⟨lw_p13, List.forall_mem_cons.mpr ⟨lw_p14, List.forall_mem_cons.mpr ⟨lw_p15, fun _ h => absurd h List.not_mem_nil⟩⟩⟩⟩⟩⟩⟩⟩⟩⟩⟩⟩⟩⟩⟩⟩
theorem lw_p16 : lw_okq (⟨"PlumbCreedsModel", "faultOf", "()I"⟩, 24) := ⟨⟨by decide +kernel, by decide +kernel⟩, List.mem_of_getElem? (i := 592) (by decide +kernel), List.mem_of_getElem? (i := 727) (by decide +kernel), List.mem_of_getElem? (i := 728) (by decide +kernel)⟩
theorem lw_p17 : lw_okq (⟨"PlumbCreedsModel", "goYears", "()I"⟩, 24) := ⟨⟨by decide +kernel, by decide +kernel⟩, List.mem_of_getElem? (i := 592) (by decide +kernel), List.mem_of_getElem? (i := 735) (by decide +kernel), List.mem_of_getElem? (i := 736) (by decide +kernel)⟩
theorem lw_p18 : lw_okq (⟨"PlumbCreedsModel", "asNow", "()V"⟩, 24) := ⟨⟨by decide +kernel, by decide +kernel⟩, List.mem_of_getElem? (i := 592) (by decide +kernel), List.mem_of_getElem? (i := 739) (by decide +kernel), List.mem_of_getElem? (i := 740) (by decide +kernel)⟩
theorem lw_p19 : lw_okq (⟨"PlumbCreedsModel", "endYear", "()I"⟩, 24) := ⟨⟨by decide +kernel, by decide +kernel⟩, List.mem_of_getElem? (i := 592) (by decide +kernel), List.mem_of_getElem? (i := 743) (by decide +kernel), List.mem_of_getElem? (i := 744) (by decide +kernel)⟩
theorem lw_p20 : lw_okq (⟨"PlumbCreedsModel", "quake", "()V"⟩, 24) := ⟨⟨by decide +kernel, by decide +kernel⟩, List.mem_of_getElem? (i := 592) (by decide +kernel), List.mem_of_getElem? (i := 747) (by decide +kernel), List.mem_of_getElem? (i := 748) (by decide +kernel)⟩
theorem lw_p21 : lw_okq (⟨"PlumbCreedsModel", "climbUp", "(II)I"⟩, 24) := ⟨⟨by decide +kernel, by decide +kernel⟩, List.mem_of_getElem? (i := 592) (by decide +kernel), List.mem_of_getElem? (i := 751) (by decide +kernel), List.mem_of_getElem? (i := 752) (by decide +kernel)⟩
theorem lw_p22 : lw_okq (⟨"PlumbCreedsModel", "doesBear", "(II)Z"⟩, 24) := ⟨⟨by decide +kernel, by decide +kernel⟩, List.mem_of_getElem? (i := 592) (by decide +kernel), List.mem_of_getElem? (i := 755) (by decide +kernel), List.mem_of_getElem? (i := 756) (by decide +kernel)⟩
theorem lw_p23 : lw_okq (⟨"PlumbCreedsModel", "convert", "(II)I"⟩, 24) := ⟨⟨by decide +kernel, by decide +kernel⟩, List.mem_of_getElem? (i := 592) (by decide +kernel), List.mem_of_getElem? (i := 759) (by decide +kernel), List.mem_of_getElem? (i := 760) (by decide +kernel)⟩
theorem lw_p24 : lw_okq (⟨"PlumbCreedsModel", "build", "(II)I"⟩, 24) := ⟨⟨by decide +kernel, by decide +kernel⟩, List.mem_of_getElem? (i := 592) (by decide +kernel), List.mem_of_getElem? (i := 763) (by decide +kernel), List.mem_of_getElem? (i := 764) (by decide +kernel)⟩
theorem lw_p25 : lw_okq (⟨"PlumbCreedsModel", "barOfYears", "()I"⟩, 24) := ⟨⟨by decide +kernel, by decide +kernel⟩, List.mem_of_getElem? (i := 592) (by decide +kernel), List.mem_of_getElem? (i := 771) (by decide +kernel), List.mem_of_getElem? (i := 772) (by decide +kernel)⟩
theorem lw_p26 : lw_okq (⟨"PlumbCreedsModel", "areThere", "(I)Z"⟩, 24) := ⟨⟨by decide +kernel, by decide +kernel⟩, List.mem_of_getElem? (i := 592) (by decide +kernel), List.mem_of_getElem? (i := 795) (by decide +kernel), List.mem_of_getElem? (i := 796) (by decide +kernel)⟩
theorem lw_p27 : lw_okq (⟨"PlumbCreedsModel", "bearsAll", "(II)Z"⟩, 24) := ⟨⟨by decide +kernel, by decide +kernel⟩, List.mem_of_getElem? (i := 592) (by decide +kernel), List.mem_of_getElem? (i := 799) (by decide +kernel), List.mem_of_getElem? (i := 800) (by decide +kernel)⟩
theorem lw_p28 : lw_okq (⟨"PlumbCreedsModel", "layFar", "(II)V"⟩, 24) := ⟨⟨by decide +kernel, by decide +kernel⟩, List.mem_of_getElem? (i := 592) (by decide +kernel), List.mem_of_getElem? (i := 816) (by decide +kernel), List.mem_of_getElem? (i := 817) (by decide +kernel)⟩
theorem lw_p29 : lw_okq (⟨"PlumbCreedsModel", "fits", "(I)Z"⟩, 24) := ⟨⟨by decide +kernel, by decide +kernel⟩, List.mem_of_getElem? (i := 592) (by decide +kernel), List.mem_of_getElem? (i := 836) (by decide +kernel), List.mem_of_getElem? (i := 837) (by decide +kernel)⟩
theorem lw_p30 : lw_okq (⟨"PlumbCreedsModel", "creedsNow", "()I"⟩, 24) := ⟨⟨by decide +kernel, by decide +kernel⟩, List.mem_of_getElem? (i := 592) (by decide +kernel), List.mem_of_getElem? (i := 851) (by decide +kernel), List.mem_of_getElem? (i := 852) (by decide +kernel)⟩
theorem lw_p31 : lw_okq (⟨"PlumbCreedsModel", "yearOn", "(I)I"⟩, 24) := ⟨⟨by decide +kernel, by decide +kernel⟩, List.mem_of_getElem? (i := 592) (by decide +kernel), List.mem_of_getElem? (i := 855) (by decide +kernel), List.mem_of_getElem? (i := 856) (by decide +kernel)⟩
def lw_privs_2 : List (MethodName × Nat) := [(⟨"PlumbCreedsModel", "faultOf", "()I"⟩, 24), (⟨"PlumbCreedsModel", "goYears", "()I"⟩, 24), (⟨"PlumbCreedsModel", "asNow", "()V"⟩, 24), (⟨"PlumbCreedsModel", "endYear", "()I"⟩, 24), (⟨"PlumbCreedsModel", "quake", "()V"⟩, 24), (⟨"PlumbCreedsModel", "climbUp", "(II)I"⟩, 24), (⟨"PlumbCreedsModel", "doesBear", "(II)Z"⟩, 24), (⟨"PlumbCreedsModel", "convert", "(II)I"⟩, 24), (⟨"PlumbCreedsModel", "build", "(II)I"⟩, 24), (⟨"PlumbCreedsModel", "barOfYears", "()I"⟩, 24), (⟨"PlumbCreedsModel", "areThere", "(I)Z"⟩, 24), (⟨"PlumbCreedsModel", "bearsAll", "(II)Z"⟩, 24), (⟨"PlumbCreedsModel", "layFar", "(II)V"⟩, 24), (⟨"PlumbCreedsModel", "fits", "(I)Z"⟩, 24), (⟨"PlumbCreedsModel", "creedsNow", "()I"⟩, 24), (⟨"PlumbCreedsModel", "yearOn", "(I)I"⟩, 24)]
theorem lw_r2 : ∀ q ∈ lw_privs_2, lw_okq q := List.forall_mem_cons.mpr ⟨lw_p16, List.forall_mem_cons.mpr ⟨lw_p17, List.forall_mem_cons.mpr ⟨lw_p18, List.forall_mem_cons.mpr ⟨lw_p19, List.forall_mem_cons.mpr ⟨lw_p20, List.forall_mem_cons.mpr ⟨lw_p21, List.forall_mem_cons.mpr ⟨lw_p22, List.forall_mem_cons.mpr ⟨lw_p23, List.forall_mem_cons.mpr ⟨lw_p24, List.forall_mem_cons.mpr ⟨lw_p25, List.forall_mem_cons.mpr ⟨lw_p26, List.forall_mem_cons.mpr ⟨lw_p27, List.forall_mem_cons.mpr ⟨lw_p28, List.forall_mem_cons.mpr ⟨lw_p29, List.forall_mem_cons.mpr ⟨lw_p30, List.forall_mem_cons.mpr ⟨lw_p31, fun _ h => absurd h List.not_mem_nil⟩⟩⟩⟩⟩⟩⟩⟩⟩⟩⟩⟩⟩⟩⟩⟩
def lw_privs : List (MethodName × Nat) := lw_privs_1 ++ (lw_privs_2)
def lw_tbl : List Cond := k2_sels lw_privs ++ tables_1
theorem lw_privs_ok : ∀ q ∈ lw_privs, lw_okq q := by
  show ∀ q ∈ lw_privs_1 ++ (lw_privs_2), lw_okq q
  exact List.forall_mem_append.mpr ⟨lw_r1, lw_r2⟩
/-! ===== BEGIN printed: names, fields, word lists, decode rows ===== -/
def RX0 : String := "PlumbCreeds$Pad"
def TX0 : u_T := fun k => match k with
  | 0 => ("PlumbCreeds$Pad", "signs", "LPlumbCreeds$Row;", true)
  | _ => ("PlumbCreeds$Pad", "count", "I", false)
def tyX0 : Nat → FieldType := fun k => match k with
  | 0 => .object "PlumbCreeds$Row"
  | _ => .int
abbrev wsX00 : List Cond := u_ws RX0 TX0 2
theorem nmX0 : ∀ a, a < 2 → ∀ b, b < 2 → a ≠ b → (TX0 a).2.1 ≠ (TX0 b).2.1 := by decide +kernel
theorem tyX0_ok : ∀ k, k < 2 → parseFieldDescriptor (TX0 k).2.2.1 = some (tyX0 k) := by decide +kernel
abbrev cX0_init : ByteArray := prog_2_method_1_code
def yX0_init : MethodName := ⟨RX0, "<init>", "()V"⟩
abbrev cX0_add : ByteArray := prog_2_method_2_code
def yX0_add : MethodName := ⟨RX0, "add", "(I)Z"⟩
abbrev cX0_faultPlace : ByteArray := prog_2_method_3_code
def yX0_faultPlace : MethodName := ⟨RX0, "faultPlace", "()I"⟩
abbrev cX0_roomBehind : ByteArray := prog_2_method_4_code
def yX0_roomBehind : MethodName := ⟨RX0, "roomBehind", "(II)I"⟩
abbrev cX0_isOneSign : ByteArray := prog_2_method_5_code
def yX0_isOneSign : MethodName := ⟨RX0, "isOneSign", "(I)Z"⟩
abbrev cX0_isCreedSign : ByteArray := prog_2_method_6_code
def yX0_isCreedSign : MethodName := ⟨RX0, "isCreedSign", "(I)Z"⟩
abbrev cX0_endsAct : ByteArray := prog_2_method_7_code
def yX0_endsAct : MethodName := ⟨RX0, "endsAct", "(I)Z"⟩
abbrev cX0_kindAt : ByteArray := prog_2_method_8_code
def yX0_kindAt : MethodName := ⟨RX0, "kindAt", "(I)I"⟩
abbrev cX0_oneAt : ByteArray := prog_2_method_9_code
def yX0_oneAt : MethodName := ⟨RX0, "oneAt", "(I)I"⟩
abbrev cX0_targetAt : ByteArray := prog_2_method_10_code
def yX0_targetAt : MethodName := ⟨RX0, "targetAt", "(I)I"⟩
def RX1 : String := "PlumbCreeds$Row"
def TX1 : u_T := fun k => match k with
  | _ => ("PlumbCreeds$Row", "cells", "[I", true)
def tyX1 : Nat → FieldType := fun k => match k with
  | _ => .array .int
abbrev wsX10 : List Cond := u_ws RX1 TX1 1
theorem nmX1 : ∀ a, a < 1 → ∀ b, b < 1 → a ≠ b → (TX1 a).2.1 ≠ (TX1 b).2.1 := by decide +kernel
theorem tyX1_ok : ∀ k, k < 1 → parseFieldDescriptor (TX1 k).2.2.1 = some (tyX1 k) := by decide +kernel
abbrev cX1_init : ByteArray := prog_3_method_1_code
def yX1_init : MethodName := ⟨RX1, "<init>", "(I)V"⟩
abbrev cX1_get : ByteArray := prog_3_method_2_code
def yX1_get : MethodName := ⟨RX1, "get", "(I)I"⟩
abbrev cX1_set : ByteArray := prog_3_method_3_code
def yX1_set : MethodName := ⟨RX1, "set", "(II)V"⟩
abbrev cX1_copyFrom : ByteArray := prog_3_method_4_code
def yX1_copyFrom : MethodName := ⟨RX1, "copyFrom", "(LPlumbCreeds$Row;)V"⟩
def RX2 : String := "PlumbCreeds$Settling"
def TX2 : u_T := fun k => match k with
  | 0 => ("PlumbCreeds$Settling", "held", "LPlumbCreeds$Row;", true)
  | 1 => ("PlumbCreeds$Settling", "taken", "LPlumbCreeds$Row;", true)
  | 2 => ("PlumbCreeds$Settling", "history", "LPlumbCreeds$Row;", true)
  | 3 => ("PlumbCreeds$Settling", "againYear", "I", false)
  | _ => ("PlumbCreeds$Settling", "earlierYear", "I", false)
def tyX2 : Nat → FieldType := fun k => match k with
  | 0 => .object "PlumbCreeds$Row"
  | 1 => .object "PlumbCreeds$Row"
  | 2 => .object "PlumbCreeds$Row"
  | 3 => .int
  | _ => .int
abbrev wsX20 : List Cond := u_ws RX2 TX2 5
theorem nmX2 : ∀ a, a < 5 → ∀ b, b < 5 → a ≠ b → (TX2 a).2.1 ≠ (TX2 b).2.1 := by decide +kernel
theorem tyX2_ok : ∀ k, k < 5 → parseFieldDescriptor (TX2 k).2.2.1 = some (tyX2 k) := by decide +kernel
abbrev cX2_init : ByteArray := prog_4_method_1_code
def yX2_init : MethodName := ⟨RX2, "<init>", "()V"⟩
abbrev cX2_start : ByteArray := prog_4_method_2_code
def yX2_start : MethodName := ⟨RX2, "start", "(LPlumbCreeds$Valley;)V"⟩
abbrev cX2_passYear : ByteArray := prog_4_method_3_code
def yX2_passYear : MethodName := ⟨RX2, "passYear", "(LPlumbCreeds$Valley;)V"⟩
abbrev cX2_choiceOf : ByteArray := prog_4_method_4_code
def yX2_choiceOf : MethodName := ⟨RX2, "choiceOf", "(ILPlumbCreeds$Valley;)I"⟩
abbrev cX2_holdersOf : ByteArray := prog_4_method_5_code
def yX2_holdersOf : MethodName := ⟨RX2, "holdersOf", "(II)I"⟩
abbrev cX2_findAgain : ByteArray := prog_4_method_6_code
def yX2_findAgain : MethodName := ⟨RX2, "findAgain", "(LPlumbCreeds$Valley;)V"⟩
abbrev cX2_heldAsNumber : ByteArray := prog_4_method_7_code
def yX2_heldAsNumber : MethodName := ⟨RX2, "heldAsNumber", "()I"⟩
def RX3 : String := "PlumbCreeds$Telling"
def TX3 : u_T := fun k => match k with
  | 0 => ("PlumbCreeds$Telling", "outcome", "LPlumbCreeds$Valley;", true)
  | 1 => ("PlumbCreeds$Telling", "acts", "I", false)
  | 2 => ("PlumbCreeds$Telling", "badAct", "I", false)
  | 3 => ("PlumbCreeds$Telling", "reason", "I", false)
  | 4 => ("PlumbCreeds$Telling", "firstFall", "I", false)
  | 5 => ("PlumbCreeds$Telling", "firstFaller", "I", false)
  | _ => ("PlumbCreeds$Telling", "falls", "I", false)
def tyX3 : Nat → FieldType := fun k => match k with
  | 0 => .object "PlumbCreeds$Valley"
  | 1 => .int
  | 2 => .int
  | 3 => .int
  | 4 => .int
  | 5 => .int
  | _ => .int
abbrev wsX30 : List Cond := u_ws RX3 TX3 7
theorem nmX3 : ∀ a, a < 7 → ∀ b, b < 7 → a ≠ b → (TX3 a).2.1 ≠ (TX3 b).2.1 := by decide +kernel
theorem tyX3_ok : ∀ k, k < 7 → parseFieldDescriptor (TX3 k).2.2.1 = some (tyX3 k) := by decide +kernel
abbrev cX3_init : ByteArray := prog_5_method_1_code
def yX3_init : MethodName := ⟨RX3, "<init>", "()V"⟩
abbrev cX3_start : ByteArray := prog_5_method_2_code
def yX3_start : MethodName := ⟨RX3, "start", "(LPlumbCreeds$Valley;)V"⟩
abbrev cX3_tellYears : ByteArray := prog_5_method_3_code
def yX3_tellYears : MethodName := ⟨RX3, "tellYears", "(LPlumbCreeds$Pad;LPlumbCreeds$Valley;)Z"⟩
abbrev cX3_tellBook : ByteArray := prog_5_method_4_code
def yX3_tellBook : MethodName := ⟨RX3, "tellBook", "(IILPlumbCreeds$Valley;)V"⟩
abbrev cX3_kindDrawn : ByteArray := prog_5_method_5_code
def yX3_kindDrawn : MethodName := ⟨RX3, "kindDrawn", "(I)I"⟩
abbrev cX3_tellAct : ByteArray := prog_5_method_6_code
def yX3_tellAct : MethodName := ⟨RX3, "tellAct", "(III)I"⟩
def RX4 : String := "PlumbCreeds$Valley"
def TX4 : u_T := fun k => match k with
  | 0 => ("PlumbCreeds$Valley", "downOf", "LPlumbCreeds$Row;", true)
  | 1 => ("PlumbCreeds$Valley", "bearing", "I", false)
  | 2 => ("PlumbCreeds$Valley", "people", "I", false)
  | 3 => ("PlumbCreeds$Valley", "creedOf", "LPlumbCreeds$Row;", true)
  | 4 => ("PlumbCreeds$Valley", "doubtOf", "LPlumbCreeds$Row;", true)
  | 5 => ("PlumbCreeds$Valley", "kinOf", "LPlumbCreeds$Row;", true)
  | 6 => ("PlumbCreeds$Valley", "walls", "I", false)
  | 7 => ("PlumbCreeds$Valley", "wallLean", "LPlumbCreeds$Row;", true)
  | 8 => ("PlumbCreeds$Valley", "wallCreed", "LPlumbCreeds$Row;", true)
  | 9 => ("PlumbCreeds$Valley", "stairs", "I", false)
  | 10 => ("PlumbCreeds$Valley", "stairFrom", "LPlumbCreeds$Row;", true)
  | 11 => ("PlumbCreeds$Valley", "stairTo", "LPlumbCreeds$Row;", true)
  | 12 => ("PlumbCreeds$Valley", "stairLean", "LPlumbCreeds$Row;", true)
  | 13 => ("PlumbCreeds$Valley", "year", "I", false)
  | 14 => ("PlumbCreeds$Valley", "sights", "I", false)
  | _ => ("PlumbCreeds$Valley", "possible", "I", false)
def tyX4 : Nat → FieldType := fun k => match k with
  | 0 => .object "PlumbCreeds$Row"
  | 1 => .int
  | 2 => .int
  | 3 => .object "PlumbCreeds$Row"
  | 4 => .object "PlumbCreeds$Row"
  | 5 => .object "PlumbCreeds$Row"
  | 6 => .int
  | 7 => .object "PlumbCreeds$Row"
  | 8 => .object "PlumbCreeds$Row"
  | 9 => .int
  | 10 => .object "PlumbCreeds$Row"
  | 11 => .object "PlumbCreeds$Row"
  | 12 => .object "PlumbCreeds$Row"
  | 13 => .int
  | 14 => .int
  | _ => .int
abbrev wsX40 : List Cond := u_ws RX4 TX4 16
theorem nmX4 : ∀ a, a < 16 → ∀ b, b < 16 → a ≠ b → (TX4 a).2.1 ≠ (TX4 b).2.1 := by decide +kernel
theorem tyX4_ok : ∀ k, k < 16 → parseFieldDescriptor (TX4 k).2.2.1 = some (tyX4 k) := by decide +kernel
abbrev cX4_init : ByteArray := prog_6_method_1_code
def yX4_init : MethodName := ⟨RX4, "<init>", "()V"⟩
abbrev cX4_copyFrom : ByteArray := prog_6_method_2_code
def yX4_copyFrom : MethodName := ⟨RX4, "copyFrom", "(LPlumbCreeds$Valley;)V"⟩
abbrev cX4_isThere : ByteArray := prog_6_method_3_code
def yX4_isThere : MethodName := ⟨RX4, "isThere", "(I)Z"⟩
abbrev cX4_areThere : ByteArray := prog_6_method_4_code
def yX4_areThere : MethodName := ⟨RX4, "areThere", "(I)Z"⟩
abbrev cX4_stands : ByteArray := prog_6_method_5_code
def yX4_stands : MethodName := ⟨RX4, "stands", "(I)Z"⟩
abbrev cX4_wallTold : ByteArray := prog_6_method_6_code
def yX4_wallTold : MethodName := ⟨RX4, "wallTold", "(II)I"⟩
abbrev cX4_setKin : ByteArray := prog_6_method_7_code
def yX4_setKin : MethodName := ⟨RX4, "setKin", "(IIZ)V"⟩
abbrev cX4_kinTwos : ByteArray := prog_6_method_8_code
def yX4_kinTwos : MethodName := ⟨RX4, "kinTwos", "()I"⟩
abbrev cX4_downFor : ByteArray := prog_6_method_9_code
def yX4_downFor : MethodName := ⟨RX4, "downFor", "(I)I"⟩
abbrev cX4_carries : ByteArray := prog_6_method_10_code
def yX4_carries : MethodName := ⟨RX4, "carries", "(II)Z"⟩
abbrev cX4_wallsFor : ByteArray := prog_6_method_11_code
def yX4_wallsFor : MethodName := ⟨RX4, "wallsFor", "(I)I"⟩
abbrev cX4_carriesAll : ByteArray := prog_6_method_12_code
def yX4_carriesAll : MethodName := ⟨RX4, "carriesAll", "(II)Z"⟩
abbrev cX4_leansFor : ByteArray := prog_6_method_13_code
def yX4_leansFor : MethodName := ⟨RX4, "leansFor", "(I)I"⟩
abbrev cX4_stepsFrom : ByteArray := prog_6_method_14_code
def yX4_stepsFrom : MethodName := ⟨RX4, "stepsFrom", "(II)I"⟩
abbrev cX4_doubtOfAll : ByteArray := prog_6_method_15_code
def yX4_doubtOfAll : MethodName := ⟨RX4, "doubtOfAll", "()I"⟩
abbrev cX4_reasonAgainst : ByteArray := prog_6_method_16_code
def yX4_reasonAgainst : MethodName := ⟨RX4, "reasonAgainst", "(III)I"⟩
abbrev cX4_enact : ByteArray := prog_6_method_17_code
def yX4_enact : MethodName := ⟨RX4, "enact", "(III)Z"⟩
abbrev cX4_build : ByteArray := prog_6_method_18_code
def yX4_build : MethodName := ⟨RX4, "build", "(II)V"⟩
abbrev cX4_tryWall : ByteArray := prog_6_method_19_code
def yX4_tryWall : MethodName := ⟨RX4, "tryWall", "(II)Z"⟩
abbrev cX4_quake : ByteArray := prog_6_method_20_code
def yX4_quake : MethodName := ⟨RX4, "quake", "()V"⟩
def RX5 : String := "PlumbCreeds"
def TX5 : u_T := fun k => match k with
  | 0 => ("PlumbCreeds", "now", "LPlumbCreeds$Valley;", true)
  | 1 => ("PlumbCreeds", "pad", "LPlumbCreeds$Pad;", true)
  | 2 => ("PlumbCreeds", "telling", "LPlumbCreeds$Telling;", true)
  | 3 => ("PlumbCreeds", "settling", "LPlumbCreeds$Settling;", true)
  | 4 => ("PlumbCreeds", "firstImage", "LPlumbCreeds$Valley;", true)
  | 5 => ("PlumbCreeds", "secondImage", "LPlumbCreeds$Valley;", true)
  | _ => ("PlumbCreeds", "keptImages", "I", false)
def tyX5 : Nat → FieldType := fun k => match k with
  | 0 => .object "PlumbCreeds$Valley"
  | 1 => .object "PlumbCreeds$Pad"
  | 2 => .object "PlumbCreeds$Telling"
  | 3 => .object "PlumbCreeds$Settling"
  | 4 => .object "PlumbCreeds$Valley"
  | 5 => .object "PlumbCreeds$Valley"
  | _ => .int
abbrev wsX50 : List Cond := u_ws RX5 TX5 7
theorem nmX5 : ∀ a, a < 7 → ∀ b, b < 7 → a ≠ b → (TX5 a).2.1 ≠ (TX5 b).2.1 := by decide +kernel
theorem tyX5_ok : ∀ k, k < 7 → parseFieldDescriptor (TX5 k).2.2.1 = some (tyX5 k) := by decide +kernel
abbrev cX5_init : ByteArray := prog_1_method_1_code
def yX5_init : MethodName := ⟨RX5, "<init>", "()V"⟩
abbrev cX5_creed : ByteArray := prog_1_method_2_code
def yX5_creed : MethodName := ⟨RX5, "creed", "(II)I"⟩
abbrev cX5_bear : ByteArray := prog_1_method_3_code
def yX5_bear : MethodName := ⟨RX5, "bear", "(I)I"⟩
abbrev cX5_one : ByteArray := prog_1_method_4_code
def yX5_one : MethodName := ⟨RX5, "one", "(III)I"⟩
abbrev cX5_leave : ByteArray := prog_1_method_5_code
def yX5_leave : MethodName := ⟨RX5, "leave", "(I)I"⟩
abbrev cX5_kin : ByteArray := prog_1_method_6_code
def yX5_kin : MethodName := ⟨RX5, "kin", "(IIZ)I"⟩
abbrev cX5_stair : ByteArray := prog_1_method_7_code
def yX5_stair : MethodName := ⟨RX5, "stair", "(IIII)I"⟩
abbrev cX5_say : ByteArray := prog_1_method_8_code
def yX5_say : MethodName := ⟨RX5, "say", "(I)I"⟩
abbrev cX5_wipe : ByteArray := prog_1_method_9_code
def yX5_wipe : MethodName := ⟨RX5, "wipe", "()I"⟩
abbrev cX5_fault : ByteArray := prog_1_method_10_code
def yX5_fault : MethodName := ⟨RX5, "fault", "()I"⟩
abbrev cX5_judge : ByteArray := prog_1_method_11_code
def yX5_judge : MethodName := ⟨RX5, "judge", "(I)I"⟩
abbrev cX5_done : ByteArray := prog_1_method_12_code
def yX5_done : MethodName := ⟨RX5, "done", "()I"⟩
abbrev cX5_behind : ByteArray := prog_1_method_13_code
def yX5_behind : MethodName := ⟨RX5, "behind", "(II)I"⟩
abbrev cX5_wall : ByteArray := prog_1_method_14_code
def yX5_wall : MethodName := ⟨RX5, "wall", "(II)I"⟩
abbrev cX5_fell : ByteArray := prog_1_method_15_code
def yX5_fell : MethodName := ⟨RX5, "fell", "(I)I"⟩
abbrev cX5_bears : ByteArray := prog_1_method_16_code
def yX5_bears : MethodName := ⟨RX5, "bears", "(I)I"⟩
abbrev cX5_all : ByteArray := prog_1_method_17_code
def yX5_all : MethodName := ⟨RX5, "all", "(II)I"⟩
abbrev cX5_wedges : ByteArray := prog_1_method_18_code
def yX5_wedges : MethodName := ⟨RX5, "wedges", "(III)I"⟩
abbrev cX5_meet : ByteArray := prog_1_method_19_code
def yX5_meet : MethodName := ⟨RX5, "meet", "(IIII)I"⟩
abbrev cX5_ways : ByteArray := prog_1_method_20_code
def yX5_ways : MethodName := ⟨RX5, "ways", "(IIII)I"⟩
abbrev cX5_reach : ByteArray := prog_1_method_21_code
def yX5_reach : MethodName := ⟨RX5, "reach", "(II)I"⟩
abbrev cX5_seen : ByteArray := prog_1_method_22_code
def yX5_seen : MethodName := ⟨RX5, "seen", "(II)I"⟩
abbrev cX5_forget : ByteArray := prog_1_method_23_code
def yX5_forget : MethodName := ⟨RX5, "forget", "()I"⟩
abbrev cX5_downs : ByteArray := prog_1_method_24_code
def yX5_downs : MethodName := ⟨RX5, "downs", "(I)I"⟩
abbrev cX5_next : ByteArray := prog_1_method_25_code
def yX5_next : MethodName := ⟨RX5, "next", "(I)I"⟩
abbrev cX5_settle : ByteArray := prog_1_method_26_code
def yX5_settle : MethodName := ⟨RX5, "settle", "(II)I"⟩
abbrev cX5_again : ByteArray := prog_1_method_27_code
def yX5_again : MethodName := ⟨RX5, "again", "(I)I"⟩
abbrev cX5_climb : ByteArray := prog_1_method_28_code
def yX5_climb : MethodName := ⟨RX5, "climb", "(IIIIII)J"⟩
abbrev cX5_book : ByteArray := prog_1_method_29_code
def yX5_book : MethodName := ⟨RX5, "book", "(III)I"⟩
abbrev cX5_image : ByteArray := prog_1_method_30_code
def yX5_image : MethodName := ⟨RX5, "image", "(I)I"⟩
abbrev cX5_restore : ByteArray := prog_1_method_31_code
def yX5_restore : MethodName := ⟨RX5, "restore", "(I)I"⟩
abbrev cX5_told : ByteArray := prog_1_method_32_code
def yX5_told : MethodName := ⟨RX5, "told", "(I)I"⟩
abbrev cX5_isIn : ByteArray := prog_1_method_33_code
def yX5_isIn : MethodName := ⟨RX5, "isIn", "(III)Z"⟩
abbrev cX5_isLean : ByteArray := prog_1_method_34_code
def yX5_isLean : MethodName := ⟨RX5, "isLean", "(I)Z"⟩
abbrev cX5_isPlace : ByteArray := prog_1_method_35_code
def yX5_isPlace : MethodName := ⟨RX5, "isPlace", "(I)Z"⟩
abbrev cX5_has : ByteArray := prog_1_method_36_code
def yX5_has : MethodName := ⟨RX5, "has", "(II)Z"⟩
abbrev cX5_leastOf : ByteArray := prog_1_method_37_code
def yX5_leastOf : MethodName := ⟨RX5, "leastOf", "(I)I"⟩
abbrev cX5_nearestOf : ByteArray := prog_1_method_38_code
def yX5_nearestOf : MethodName := ⟨RX5, "nearestOf", "(II)I"⟩
abbrev cX5_downsThat : ByteArray := prog_1_method_39_code
def yX5_downsThat : MethodName := ⟨RX5, "downsThat", "(II)I"⟩
abbrev cX5_mostLeftBy : ByteArray := prog_1_method_40_code
def yX5_mostLeftBy : MethodName := ⟨RX5, "mostLeftBy", "(I)I"⟩
abbrev cX5_stepBehind : ByteArray := prog_1_method_41_code
def yX5_stepBehind : MethodName := ⟨RX5, "stepBehind", "(IIII)I"⟩
abbrev cX5_lowestTerm : ByteArray := prog_1_method_42_code
def yX5_lowestTerm : MethodName := ⟨RX5, "lowestTerm", "(JJI)J"⟩
abbrev cX5_commonDivisor : ByteArray := prog_1_method_43_code
def yX5_commonDivisor : MethodName := ⟨RX5, "commonDivisor", "(JJ)J"⟩
abbrev cX5_imageAt : ByteArray := prog_1_method_44_code
def yX5_imageAt : MethodName := ⟨RX5, "imageAt", "(I)LPlumbCreeds$Valley;"⟩
abbrev cX5_toldOfAll : ByteArray := prog_1_method_45_code
def yX5_toldOfAll : MethodName := ⟨RX5, "toldOfAll", "(I)I"⟩
abbrev cX5_toldOfOne : ByteArray := prog_1_method_46_code
def yX5_toldOfOne : MethodName := ⟨RX5, "toldOfOne", "(II)I"⟩
abbrev cX5_toldOfWall : ByteArray := prog_1_method_47_code
def yX5_toldOfWall : MethodName := ⟨RX5, "toldOfWall", "(II)I"⟩
abbrev cX5_toldOfStair : ByteArray := prog_1_method_48_code
def yX5_toldOfStair : MethodName := ⟨RX5, "toldOfStair", "(I)I"⟩
def RX6 : String := "PlumbCreedsModel"
def TX6 : u_T := fun k => match k with
  | 0 => ("PlumbCreedsModel", "book", "[I", true)
  | 1 => ("PlumbCreedsModel", "now", "[I", true)
  | 2 => ("PlumbCreedsModel", "there", "I", false)
  | 3 => ("PlumbCreedsModel", "down", "[I", true)
  | 4 => ("PlumbCreedsModel", "bear", "I", false)
  | 5 => ("PlumbCreedsModel", "kin", "[I", true)
  | 6 => ("PlumbCreedsModel", "stairs", "I", false)
  | 7 => ("PlumbCreedsModel", "from", "[I", true)
  | 8 => ("PlumbCreedsModel", "to", "[I", true)
  | 9 => ("PlumbCreedsModel", "slope", "[I", true)
  | 10 => ("PlumbCreedsModel", "sights", "I", false)
  | 11 => ("PlumbCreedsModel", "sight", "[I", true)
  | 12 => ("PlumbCreedsModel", "signs", "I", false)
  | 13 => ("PlumbCreedsModel", "pad", "[I", true)
  | 14 => ("PlumbCreedsModel", "falls", "I", false)
  | 15 => ("PlumbCreedsModel", "fellAt", "I", false)
  | 16 => ("PlumbCreedsModel", "fellWho", "I", false)
  | 17 => ("PlumbCreedsModel", "reason", "I", false)
  | 18 => ("PlumbCreedsModel", "acts", "I", false)
  | 19 => ("PlumbCreedsModel", "far", "[I", true)
  | 20 => ("PlumbCreedsModel", "counts", "[I", true)
  | 21 => ("PlumbCreedsModel", "year", "[I", true)
  | 22 => ("PlumbCreedsModel", "image", "[I", true)
  | _ => ("PlumbCreedsModel", "isKept", "[Z", true)
def tyX6 : Nat → FieldType := fun k => match k with
  | 0 => .array .int
  | 1 => .array .int
  | 2 => .int
  | 3 => .array .int
  | 4 => .int
  | 5 => .array .int
  | 6 => .int
  | 7 => .array .int
  | 8 => .array .int
  | 9 => .array .int
  | 10 => .int
  | 11 => .array .int
  | 12 => .int
  | 13 => .array .int
  | 14 => .int
  | 15 => .int
  | 16 => .int
  | 17 => .int
  | 18 => .int
  | 19 => .array .int
  | 20 => .array .int
  | 21 => .array .int
  | 22 => .array .int
  | _ => .array .boolean
abbrev wsX60 : List Cond := u_ws RX6 TX6 24
theorem nmX6 : ∀ a, a < 24 → ∀ b, b < 24 → a ≠ b → (TX6 a).2.1 ≠ (TX6 b).2.1 := by decide +kernel
theorem tyX6_ok : ∀ k, k < 24 → parseFieldDescriptor (TX6 k).2.2.1 = some (tyX6 k) := by decide +kernel
abbrev cX6_init : ByteArray := prog_8_method_1_code
def yX6_init : MethodName := ⟨RX6, "<init>", "()V"⟩
abbrev cX6_in : ByteArray := prog_8_method_2_code
def yX6_in : MethodName := ⟨RX6, "in", "(III)Z"⟩
abbrev cX6_has : ByteArray := prog_8_method_3_code
def yX6_has : MethodName := ⟨RX6, "has", "(II)Z"⟩
abbrev cX6_bits : ByteArray := prog_8_method_4_code
def yX6_bits : MethodName := ⟨RX6, "bits", "(I)I"⟩
abbrev cX6_isThere : ByteArray := prog_8_method_5_code
def yX6_isThere : MethodName := ⟨RX6, "isThere", "(I)Z"⟩
abbrev cX6_isLean : ByteArray := prog_8_method_6_code
def yX6_isLean : MethodName := ⟨RX6, "isLean", "(I)Z"⟩
abbrev cX6_doesBear : ByteArray := prog_8_method_7_code
def yX6_doesBear : MethodName := ⟨RX6, "doesBear", "(II)Z"⟩
abbrev cX6_creed : ByteArray := prog_8_method_8_code
def yX6_creed : MethodName := ⟨RX6, "creed", "(II)I"⟩
abbrev cX6_bear : ByteArray := prog_8_method_9_code
def yX6_bear : MethodName := ⟨RX6, "bear", "(I)I"⟩
abbrev cX6_one : ByteArray := prog_8_method_10_code
def yX6_one : MethodName := ⟨RX6, "one", "(III)I"⟩
abbrev cX6_leave : ByteArray := prog_8_method_11_code
def yX6_leave : MethodName := ⟨RX6, "leave", "(I)I"⟩
abbrev cX6_kin : ByteArray := prog_8_method_12_code
def yX6_kin : MethodName := ⟨RX6, "kin", "(IIZ)I"⟩
abbrev cX6_isPlace : ByteArray := prog_8_method_13_code
def yX6_isPlace : MethodName := ⟨RX6, "isPlace", "(I)Z"⟩
abbrev cX6_stair : ByteArray := prog_8_method_14_code
def yX6_stair : MethodName := ⟨RX6, "stair", "(IIII)I"⟩
abbrev cX6_say : ByteArray := prog_8_method_15_code
def yX6_say : MethodName := ⟨RX6, "say", "(I)I"⟩
abbrev cX6_wipe : ByteArray := prog_8_method_16_code
def yX6_wipe : MethodName := ⟨RX6, "wipe", "()I"⟩
abbrev cX6_faultOf : ByteArray := prog_8_method_17_code
def yX6_faultOf : MethodName := ⟨RX6, "faultOf", "()I"⟩
abbrev cX6_fault : ByteArray := prog_8_method_18_code
def yX6_fault : MethodName := ⟨RX6, "fault", "()I"⟩
abbrev cX6_asNow : ByteArray := prog_8_method_19_code
def yX6_asNow : MethodName := ⟨RX6, "asNow", "()V"⟩
abbrev cX6_build : ByteArray := prog_8_method_20_code
def yX6_build : MethodName := ⟨RX6, "build", "(II)I"⟩
abbrev cX6_climbUp : ByteArray := prog_8_method_21_code
def yX6_climbUp : MethodName := ⟨RX6, "climbUp", "(II)I"⟩
abbrev cX6_convert : ByteArray := prog_8_method_22_code
def yX6_convert : MethodName := ⟨RX6, "convert", "(II)I"⟩
abbrev cX6_quake : ByteArray := prog_8_method_23_code
def yX6_quake : MethodName := ⟨RX6, "quake", "()V"⟩
abbrev cX6_endYear : ByteArray := prog_8_method_24_code
def yX6_endYear : MethodName := ⟨RX6, "endYear", "()I"⟩
abbrev cX6_goYears : ByteArray := prog_8_method_25_code
def yX6_goYears : MethodName := ⟨RX6, "goYears", "()I"⟩
abbrev cX6_judge : ByteArray := prog_8_method_26_code
def yX6_judge : MethodName := ⟨RX6, "judge", "(I)I"⟩
abbrev cX6_barOfYears : ByteArray := prog_8_method_27_code
def yX6_barOfYears : MethodName := ⟨RX6, "barOfYears", "()I"⟩
abbrev cX6_done : ByteArray := prog_8_method_28_code
def yX6_done : MethodName := ⟨RX6, "done", "()I"⟩
abbrev cX6_behind : ByteArray := prog_8_method_29_code
def yX6_behind : MethodName := ⟨RX6, "behind", "(II)I"⟩
abbrev cX6_wall : ByteArray := prog_8_method_30_code
def yX6_wall : MethodName := ⟨RX6, "wall", "(II)I"⟩
abbrev cX6_fell : ByteArray := prog_8_method_31_code
def yX6_fell : MethodName := ⟨RX6, "fell", "(I)I"⟩
abbrev cX6_bears : ByteArray := prog_8_method_32_code
def yX6_bears : MethodName := ⟨RX6, "bears", "(I)I"⟩
abbrev cX6_areThere : ByteArray := prog_8_method_33_code
def yX6_areThere : MethodName := ⟨RX6, "areThere", "(I)Z"⟩
abbrev cX6_bearsAll : ByteArray := prog_8_method_34_code
def yX6_bearsAll : MethodName := ⟨RX6, "bearsAll", "(II)Z"⟩
abbrev cX6_all : ByteArray := prog_8_method_35_code
def yX6_all : MethodName := ⟨RX6, "all", "(II)I"⟩
abbrev cX6_wedges : ByteArray := prog_8_method_36_code
def yX6_wedges : MethodName := ⟨RX6, "wedges", "(III)I"⟩
abbrev cX6_meet : ByteArray := prog_8_method_37_code
def yX6_meet : MethodName := ⟨RX6, "meet", "(IIII)I"⟩
abbrev cX6_layFar : ByteArray := prog_8_method_38_code
def yX6_layFar : MethodName := ⟨RX6, "layFar", "(II)V"⟩
abbrev cX6_ways : ByteArray := prog_8_method_39_code
def yX6_ways : MethodName := ⟨RX6, "ways", "(IIII)I"⟩
abbrev cX6_reach : ByteArray := prog_8_method_40_code
def yX6_reach : MethodName := ⟨RX6, "reach", "(II)I"⟩
abbrev cX6_seen : ByteArray := prog_8_method_41_code
def yX6_seen : MethodName := ⟨RX6, "seen", "(II)I"⟩
abbrev cX6_forget : ByteArray := prog_8_method_42_code
def yX6_forget : MethodName := ⟨RX6, "forget", "()I"⟩
abbrev cX6_howIs : ByteArray := prog_8_method_43_code
def yX6_howIs : MethodName := ⟨RX6, "howIs", "(II)I"⟩
abbrev cX6_fits : ByteArray := prog_8_method_44_code
def yX6_fits : MethodName := ⟨RX6, "fits", "(I)Z"⟩
abbrev cX6_downs : ByteArray := prog_8_method_45_code
def yX6_downs : MethodName := ⟨RX6, "downs", "(I)I"⟩
abbrev cX6_next : ByteArray := prog_8_method_46_code
def yX6_next : MethodName := ⟨RX6, "next", "(I)I"⟩
abbrev cX6_creedsNow : ByteArray := prog_8_method_47_code
def yX6_creedsNow : MethodName := ⟨RX6, "creedsNow", "()I"⟩
abbrev cX6_creedIn : ByteArray := prog_8_method_48_code
def yX6_creedIn : MethodName := ⟨RX6, "creedIn", "(II)I"⟩
abbrev cX6_yearOn : ByteArray := prog_8_method_49_code
def yX6_yearOn : MethodName := ⟨RX6, "yearOn", "(I)I"⟩
abbrev cX6_settle : ByteArray := prog_8_method_50_code
def yX6_settle : MethodName := ⟨RX6, "settle", "(II)I"⟩
abbrev cX6_again : ByteArray := prog_8_method_51_code
def yX6_again : MethodName := ⟨RX6, "again", "(I)I"⟩
abbrev cX6_part : ByteArray := prog_8_method_52_code
def yX6_part : MethodName := ⟨RX6, "part", "(JJI)J"⟩
abbrev cX6_climb : ByteArray := prog_8_method_53_code
def yX6_climb : MethodName := ⟨RX6, "climb", "(IIIIII)J"⟩
abbrev cX6_book : ByteArray := prog_8_method_54_code
def yX6_book : MethodName := ⟨RX6, "book", "(III)I"⟩
abbrev cX6_image : ByteArray := prog_8_method_55_code
def yX6_image : MethodName := ⟨RX6, "image", "(I)I"⟩
abbrev cX6_restore : ByteArray := prog_8_method_56_code
def yX6_restore : MethodName := ⟨RX6, "restore", "(I)I"⟩
abbrev cX6_told : ByteArray := prog_8_method_57_code
def yX6_told : MethodName := ⟨RX6, "told", "(I)I"⟩
def RJ6 : String := "java/lang/Integer"
def TJ6 : u_T := fun k => match k with
  | _ => ("", "", "", false)
def tyJ6 : Nat → FieldType := fun k => match k with
  | _ => .int
abbrev wsJ60 : List Cond := u_ws RJ6 TJ6 0
theorem nmJ6 : ∀ a, a < 0 → ∀ b, b < 0 → a ≠ b → (TJ6 a).2.1 ≠ (TJ6 b).2.1 := by decide +kernel
theorem tyJ6_ok : ∀ k, k < 0 → parseFieldDescriptor (TJ6 k).2.2.1 = some (tyJ6 k) := by decide +kernel
abbrev cJ6_bitCount_0f7a4 : ByteArray := prog_9_method_49_code
def yJ6_bitCount_0f7a4 : MethodName := ⟨RJ6, "bitCount", "(I)I"⟩
def RJ9 : String := "java/lang/Math"
def TJ9 : u_T := fun k => match k with
  | _ => ("", "", "", false)
def tyJ9 : Nat → FieldType := fun k => match k with
  | _ => .int
abbrev wsJ90 : List Cond := u_ws RJ9 TJ9 0
theorem nmJ9 : ∀ a, a < 0 → ∀ b, b < 0 → a ≠ b → (TJ9 a).2.1 ≠ (TJ9 b).2.1 := by decide +kernel
theorem tyJ9_ok : ∀ k, k < 0 → parseFieldDescriptor (TJ9 k).2.2.1 = some (tyJ9 k) := by decide +kernel
abbrev cJ9_abs_0f7a4 : ByteArray := prog_10_method_59_code
def yJ9_abs_0f7a4 : MethodName := ⟨RJ9, "abs", "(I)I"⟩
abbrev cJ9_max_7cf53 : ByteArray := prog_10_method_65_code
def yJ9_max_7cf53 : MethodName := ⟨RJ9, "max", "(II)I"⟩
abbrev cJ9_max_f86c9 : ByteArray := prog_10_method_66_code
def yJ9_max_f86c9 : MethodName := ⟨RJ9, "max", "(JJ)J"⟩
def RL : String := "PlumbCreedsLaw"
abbrev cL_law : ByteArray := code
def yL_law : MethodName := ⟨RL, "law", "([I)Z"⟩
abbrev vwCl : List vw_C := [(RX0, TX0, 2), (RX1, TX1, 1), (RX2, TX2, 5), (RX3, TX3, 7), (RX4, TX4, 16), (RX5, TX5, 7), (RX6, TX6, 24)]
end
section
/-! A small machine with cells by number, whose runs are the bytecode's: its state is (pc, locals, stack, cells); instructions stand in rows that a program lays (decoded, their links resolved). -/
/-- a cell: an array (0: ints, 1: booleans; length; contents) or an object (class, fields) -/
abbrev AMc : Type := (Nat × Nat × (Nat → Int32)) ⊕ (Nat × List Value)
/-- the law's script: its length, its ints -/
abbrev AMx : Type := Nat × (Nat → Int32)
abbrev AMl : Type := List (Option Value)
/-- an instruction: itself, its length, two numbers, a value, a switch's table, the place of its word -/
abbrev AMrd : Type := Instr × Nat × Nat × Nat × Value × List (Int32 × Nat) × Nat
abbrev AMrow : Type := Nat × AMrd
/-- a method: (class, name, bytes, locals, what it returns), rows, (frames, words, makes cells, is the law), (places of its words: code, static or of an object, selects; its kind; initialized's place; arguments) -/
abbrev AMinfo : Type := (Nat × MethodName × ByteArray × Nat × Option FieldType) × List AMrow × (Nat × Nat × Bool × Bool) × (Nat × Nat × Nat × Nat × Nat × Nat)
abbrev am_cls (M : AMinfo) : Nat := M.1.1
abbrev am_y (M : AMinfo) : MethodName := M.1.2.1
abbrev am_by (M : AMinfo) : ByteArray := M.1.2.2.1
abbrev am_nL (M : AMinfo) : Nat := M.1.2.2.2.1
abbrev am_rt (M : AMinfo) : Option FieldType := M.1.2.2.2.2
abbrev am_rows (M : AMinfo) : List AMrow := M.2.1
abbrev am_fr (M : AMinfo) : Nat := M.2.2.1.1
abbrev am_lo (M : AMinfo) : Nat := M.2.2.1.2.1
abbrev am_al (M : AMinfo) : Bool := M.2.2.1.2.2.1
abbrev am_lw (M : AMinfo) : Bool := M.2.2.1.2.2.2
abbrev am_na (M : AMinfo) : Nat := M.2.2.2.2.2.2.2.2

def am_r0_X0_init : List AMrow := [(0, .aload_n 0, 1, 0, 0, .null, [], 0), (1, .invokespecial 3, 3, 999, 0, .null, [], 146), (4, .aload_n 0, 1, 0, 0, .null, [], 0), (5, .new 9, 3, 1, 0, .null, [], 147), (8, .dup, 1, 0, 0, .null, [], 0), (9, .bipush 60, 2, 0, 0, .int (60), [], 0), (11, .invokespecial 11, 3, 10, 2, .int 0, [], 148), (14, .putfield 14, 3, 0, 0, .null, [], 149), (17, .aload_n 0, 1, 0, 0, .null, [], 0), (18, .iconst 0, 1, 0, 0, .int (0), [], 0), (19, .putfield 20, 3, 0, 1, .null, [], 150), (22, .return_, 1, 0, 0, .null, [], 0)]
def AM_X0_init : AMinfo := ((0, yX0_init, cX0_init, 1, none), am_r0_X0_init, (2, 51, true, false), (145, 144, 0, 2, 37, 1))
def am_r0_X0_add : List AMrow := [(0, .aload_n 0, 1, 0, 0, .null, [], 0), (1, .getfield 20, 3, 0, 1, .null, [], 150), (4, .bipush 60, 2, 0, 0, .int (60), [], 0), (6, .if_icmp .lt 5, 3, 0, 11, .null, [], 0), (9, .iconst 0, 1, 0, 0, .int (0), [], 0), (10, .ireturn, 1, 0, 0, .null, [], 0), (11, .aload_n 0, 1, 0, 0, .null, [], 0), (12, .getfield 14, 3, 0, 0, .null, [], 149), (15, .aload_n 0, 1, 0, 0, .null, [], 0), (16, .getfield 20, 3, 0, 1, .null, [], 150), (19, .iload_n 1, 1, 1, 0, .null, [], 0), (20, .invokevirtual 24, 3, 12, 3, .int 0, [], 313), (23, .aload_n 0, 1, 0, 0, .null, [], 0), (24, .dup, 1, 0, 0, .null, [], 0), (25, .getfield 20, 3, 0, 1, .null, [], 150), (28, .iconst 1, 1, 0, 0, .int (1), [], 0), (29, .iadd, 1, 0, 0, .null, [], 0), (30, .putfield 20, 3, 0, 1, .null, [], 150), (33, .iconst 1, 1, 0, 0, .int (1), [], 0), (34, .ireturn, 1, 0, 0, .null, [], 0)]
def AM_X0_add : AMinfo := ((0, yX0_add, cX0_add, 2, (some .boolean)), am_r0_X0_add, (1, 22, false, false), (312, 310, 311, 1, 37, 2))
def am_r0_X0_faultPlace : List AMrow := [(0, .iconst 0, 1, 0, 0, .int (0), [], 0), (1, .istore_n 1, 1, 1, 0, .null, [], 0), (2, .iconst 0, 1, 0, 0, .int (0), [], 0), (3, .istore_n 2, 1, 2, 0, .null, [], 0), (4, .iload_n 2, 1, 2, 0, .null, [], 0), (5, .aload_n 0, 1, 0, 0, .null, [], 0), (6, .getfield 20, 3, 0, 1, .null, [], 150), (9, .if_icmp .ge 29, 3, 0, 38, .null, [], 0), (12, .aload_n 0, 1, 0, 0, .null, [], 0), (13, .getfield 14, 3, 0, 0, .null, [], 149), (16, .iload_n 2, 1, 2, 0, .null, [], 0), (17, .invokevirtual 28, 3, 11, 2, .int 0, [], 326), (20, .iload_n 1, 1, 1, 0, .null, [], 0), (21, .invokestatic 32, 3, 3, 2, .int 0, [], 327), (24, .istore_n 1, 1, 1, 0, .null, [], 0), (25, .iload_n 1, 1, 1, 0, .null, [], 0), (26, .iconst 3, 1, 0, 0, .int (3), [], 0), (27, .if_icmp .ne 5, 3, 0, 32, .null, [], 0), (30, .iload_n 2, 1, 2, 0, .null, [], 0), (31, .ireturn, 1, 0, 0, .null, [], 0), (32, .iinc 2 1, 3, 2, 0, .int (1), [], 0), (35, .goto (-31), 3, 0, 4, .null, [], 0), (38, .iload_n 1, 1, 1, 0, .null, [], 0), (39, .ifCond .ne 8, 3, 0, 47, .null, [], 0), (42, .bipush (-6), 2, 0, 0, .int (-6), [], 0), (44, .goto 7, 3, 0, 51, .null, [], 0), (47, .aload_n 0, 1, 0, 0, .null, [], 0), (48, .getfield 20, 3, 0, 1, .null, [], 150), (51, .ireturn, 1, 0, 0, .null, [], 0)]
def AM_X0_faultPlace : AMinfo := ((0, yX0_faultPlace, cX0_faultPlace, 3, (some .int)), am_r0_X0_faultPlace, (3, 63, false, false), (325, 323, 324, 1, 37, 1))
def am_r0_X0_roomBehind : List AMrow := [(0, .iload_n 1, 1, 1, 0, .null, [], 0), (1, .ifCond .ne 30, 3, 0, 31, .null, [], 0), (4, .iload_n 0, 1, 0, 0, .null, [], 0), (5, .invokestatic 36, 3, 4, 1, .int 0, [], 330), (8, .ifCond .eq 5, 3, 0, 13, .null, [], 0), (11, .iconst 1, 1, 0, 0, .int (1), [], 0), (12, .ireturn, 1, 0, 0, .null, [], 0), (13, .iload_n 0, 1, 0, 0, .null, [], 0), (14, .bipush 42, 2, 0, 0, .int (42), [], 0), (16, .if_icmp .eq 9, 3, 0, 25, .null, [], 0), (19, .iload_n 0, 1, 0, 0, .null, [], 0), (20, .bipush 46, 2, 0, 0, .int (46), [], 0), (22, .if_icmp .ne 7, 3, 0, 29, .null, [], 0), (25, .iconst 0, 1, 0, 0, .int (0), [], 0), (26, .goto 4, 3, 0, 30, .null, [], 0), (29, .iconst 3, 1, 0, 0, .int (3), [], 0), (30, .ireturn, 1, 0, 0, .null, [], 0), (31, .iload_n 0, 1, 0, 0, .null, [], 0), (32, .bipush 48, 2, 0, 0, .int (48), [], 0), (34, .bipush 55, 2, 0, 0, .int (55), [], 0), (36, .invokestatic 40, 3, 79, 3, .int 1, [], 333), (39, .ifCond .eq 5, 3, 0, 44, .null, [], 0), (42, .iconst 0, 1, 0, 0, .int (0), [], 0), (43, .ireturn, 1, 0, 0, .null, [], 0), (44, .iload_n 1, 1, 1, 0, .null, [], 0), (45, .iconst 2, 1, 0, 0, .int (2), [], 0), (46, .if_icmp .ne 5, 3, 0, 51, .null, [], 0), (49, .iconst 3, 1, 0, 0, .int (3), [], 0), (50, .ireturn, 1, 0, 0, .null, [], 0), (51, .iload_n 0, 1, 0, 0, .null, [], 0), (52, .bipush 94, 2, 0, 0, .int (94), [], 0), (54, .if_icmp .ne 5, 3, 0, 59, .null, [], 0), (57, .iconst 2, 1, 0, 0, .int (2), [], 0), (58, .ireturn, 1, 0, 0, .null, [], 0), (59, .iload_n 0, 1, 0, 0, .null, [], 0), (60, .invokestatic 44, 3, 5, 1, .int 0, [], 334), (63, .ifCond .eq 7, 3, 0, 70, .null, [], 0), (66, .iconst 0, 1, 0, 0, .int (0), [], 0), (67, .goto 4, 3, 0, 71, .null, [], 0), (70, .iconst 3, 1, 0, 0, .int (3), [], 0), (71, .ireturn, 1, 0, 0, .null, [], 0)]
def AM_X0_roomBehind : AMinfo := ((0, yX0_roomBehind, cX0_roomBehind, 2, (some .int)), am_r0_X0_roomBehind, (2, 42, false, false), (329, 328, 0, 0, 37, 2))
def am_r0_X0_isOneSign : List AMrow := [(0, .iload_n 0, 1, 0, 0, .null, [], 0), (1, .bipush 65, 2, 0, 0, .int (65), [], 0), (3, .bipush 71, 2, 0, 0, .int (71), [], 0), (5, .invokestatic 40, 3, 79, 3, .int 1, [], 333), (8, .ireturn, 1, 0, 0, .null, [], 0)]
def AM_X0_isOneSign : AMinfo := ((0, yX0_isOneSign, cX0_isOneSign, 1, (some .boolean)), am_r0_X0_isOneSign, (1, 22, false, false), (332, 331, 0, 0, 37, 1))
def am_r0_X0_isCreedSign : List AMrow := [(0, .iload_n 0, 1, 0, 0, .null, [], 0), (1, .bipush 120, 2, 0, 0, .int (120), [], 0), (3, .bipush 122, 2, 0, 0, .int (122), [], 0), (5, .invokestatic 40, 3, 79, 3, .int 1, [], 333), (8, .ireturn, 1, 0, 0, .null, [], 0)]
def AM_X0_isCreedSign : AMinfo := ((0, yX0_isCreedSign, cX0_isCreedSign, 1, (some .boolean)), am_r0_X0_isCreedSign, (1, 22, false, false), (336, 335, 0, 0, 37, 1))
def am_r0_X0_endsAct : List AMrow := [(0, .aload_n 0, 1, 0, 0, .null, [], 0), (1, .getfield 14, 3, 0, 0, .null, [], 149), (4, .iload_n 1, 1, 1, 0, .null, [], 0), (5, .invokevirtual 28, 3, 11, 2, .int 0, [], 326), (8, .invokestatic 36, 3, 4, 1, .int 0, [], 330), (11, .ifCond .ne 20, 3, 0, 31, .null, [], 0), (14, .aload_n 0, 1, 0, 0, .null, [], 0), (15, .getfield 14, 3, 0, 0, .null, [], 149), (18, .iload_n 1, 1, 1, 0, .null, [], 0), (19, .invokevirtual 28, 3, 11, 2, .int 0, [], 326), (22, .bipush 94, 2, 0, 0, .int (94), [], 0), (24, .if_icmp .eq 7, 3, 0, 31, .null, [], 0), (27, .iconst 1, 1, 0, 0, .int (1), [], 0), (28, .goto 4, 3, 0, 32, .null, [], 0), (31, .iconst 0, 1, 0, 0, .int (0), [], 0), (32, .ireturn, 1, 0, 0, .null, [], 0)]
def AM_X0_endsAct : AMinfo := ((0, yX0_endsAct, cX0_endsAct, 2, (some .boolean)), am_r0_X0_endsAct, (2, 42, false, false), (362, 360, 361, 1, 37, 2))
def am_r0_X0_kindAt : List AMrow := [(0, .aload_n 0, 1, 0, 0, .null, [], 0), (1, .getfield 14, 3, 0, 0, .null, [], 149), (4, .iload_n 1, 1, 1, 0, .null, [], 0), (5, .invokevirtual 28, 3, 11, 2, .int 0, [], 326), (8, .istore_n 2, 1, 2, 0, .null, [], 0), (9, .iload_n 2, 1, 2, 0, .null, [], 0), (10, .bipush 42, 2, 0, 0, .int (42), [], 0), (12, .if_icmp .ne 5, 3, 0, 17, .null, [], 0), (15, .iconst 3, 1, 0, 0, .int (3), [], 0), (16, .ireturn, 1, 0, 0, .null, [], 0), (17, .iload_n 2, 1, 2, 0, .null, [], 0), (18, .bipush 46, 2, 0, 0, .int (46), [], 0), (20, .if_icmp .ne 5, 3, 0, 25, .null, [], 0), (23, .iconst 4, 1, 0, 0, .int (4), [], 0), (24, .ireturn, 1, 0, 0, .null, [], 0), (25, .iload_n 2, 1, 2, 0, .null, [], 0), (26, .invokestatic 44, 3, 5, 1, .int 0, [], 334), (29, .ifCond .eq 5, 3, 0, 34, .null, [], 0), (32, .iconst 2, 1, 0, 0, .int (2), [], 0), (33, .ireturn, 1, 0, 0, .null, [], 0), (34, .aload_n 0, 1, 0, 0, .null, [], 0), (35, .getfield 14, 3, 0, 0, .null, [], 149), (38, .iload_n 1, 1, 1, 0, .null, [], 0), (39, .iconst 1, 1, 0, 0, .int (1), [], 0), (40, .isub, 1, 0, 0, .null, [], 0), (41, .invokevirtual 28, 3, 11, 2, .int 0, [], 326), (44, .bipush 94, 2, 0, 0, .int (94), [], 0), (46, .if_icmp .ne 7, 3, 0, 53, .null, [], 0), (49, .iconst 1, 1, 0, 0, .int (1), [], 0), (50, .goto 4, 3, 0, 54, .null, [], 0), (53, .iconst 0, 1, 0, 0, .int (0), [], 0), (54, .ireturn, 1, 0, 0, .null, [], 0)]
def AM_X0_kindAt : AMinfo := ((0, yX0_kindAt, cX0_kindAt, 3, (some .int)), am_r0_X0_kindAt, (2, 42, false, false), (366, 364, 365, 1, 37, 2))
def am_r0_X0_oneAt : List AMrow := [(0, .aload_n 0, 1, 0, 0, .null, [], 0), (1, .getfield 14, 3, 0, 0, .null, [], 149), (4, .aload_n 0, 1, 0, 0, .null, [], 0), (5, .iload_n 1, 1, 1, 0, .null, [], 0), (6, .invokevirtual 47, 3, 7, 2, .int 0, [], 371), (9, .iconst 1, 1, 0, 0, .int (1), [], 0), (10, .if_icmp .ne 9, 3, 0, 19, .null, [], 0), (13, .iload_n 1, 1, 1, 0, .null, [], 0), (14, .iconst 2, 1, 0, 0, .int (2), [], 0), (15, .isub, 1, 0, 0, .null, [], 0), (16, .goto 6, 3, 0, 22, .null, [], 0), (19, .iload_n 1, 1, 1, 0, .null, [], 0), (20, .iconst 1, 1, 0, 0, .int (1), [], 0), (21, .isub, 1, 0, 0, .null, [], 0), (22, .invokevirtual 28, 3, 11, 2, .int 0, [], 326), (25, .bipush 65, 2, 0, 0, .int (65), [], 0), (27, .isub, 1, 0, 0, .null, [], 0), (28, .ireturn, 1, 0, 0, .null, [], 0)]
def AM_X0_oneAt : AMinfo := ((0, yX0_oneAt, cX0_oneAt, 2, (some .int)), am_r0_X0_oneAt, (3, 64, false, false), (370, 368, 369, 1, 37, 2))
def am_r0_X0_targetAt : List AMrow := [(0, .aload_n 0, 1, 0, 0, .null, [], 0), (1, .getfield 14, 3, 0, 0, .null, [], 149), (4, .iload_n 1, 1, 1, 0, .null, [], 0), (5, .invokevirtual 28, 3, 11, 2, .int 0, [], 326), (8, .aload_n 0, 1, 0, 0, .null, [], 0), (9, .getfield 14, 3, 0, 0, .null, [], 149), (12, .iload_n 1, 1, 1, 0, .null, [], 0), (13, .invokevirtual 28, 3, 11, 2, .int 0, [], 326), (16, .invokestatic 44, 3, 5, 1, .int 0, [], 334), (19, .ifCond .eq 8, 3, 0, 27, .null, [], 0), (22, .bipush 120, 2, 0, 0, .int (120), [], 0), (24, .goto 5, 3, 0, 29, .null, [], 0), (27, .bipush 48, 2, 0, 0, .int (48), [], 0), (29, .isub, 1, 0, 0, .null, [], 0), (30, .ireturn, 1, 0, 0, .null, [], 0)]
def AM_X0_targetAt : AMinfo := ((0, yX0_targetAt, cX0_targetAt, 2, (some .int)), am_r0_X0_targetAt, (2, 42, false, false), (375, 373, 374, 1, 37, 2))
def am_r0_X1_init : List AMrow := [(0, .aload_n 0, 1, 0, 0, .null, [], 0), (1, .invokespecial 1, 3, 999, 0, .null, [], 61), (4, .aload_n 0, 1, 0, 0, .null, [], 0), (5, .iload_n 1, 1, 1, 0, .null, [], 0), (6, .iconst 0, 1, 0, 0, .int (0), [], 0), (7, .invokestatic 7, 3, 996, 0, .null, [], 62), (10, .newarray .int, 2, 0, 0, .null, [], 69), (12, .putfield 13, 3, 1, 0, .null, [], 65), (15, .return_, 1, 0, 0, .null, [], 0)]
def AM_X1_init : AMinfo := ((1, yX1_init, cX1_init, 2, none), am_r0_X1_init, (1, 30, true, false), (60, 59, 0, 2, 35, 2))
def am_r0_X1_get : List AMrow := [(0, .iload_n 1, 1, 1, 0, .null, [], 0), (1, .ifCond .lt 21, 3, 0, 22, .null, [], 0), (4, .iload_n 1, 1, 1, 0, .null, [], 0), (5, .aload_n 0, 1, 0, 0, .null, [], 0), (6, .getfield 13, 3, 1, 0, .null, [], 65), (9, .arraylength, 1, 0, 0, .null, [], 0), (10, .if_icmp .ge 12, 3, 0, 22, .null, [], 0), (13, .aload_n 0, 1, 0, 0, .null, [], 0), (14, .getfield 13, 3, 1, 0, .null, [], 65), (17, .iload_n 1, 1, 1, 0, .null, [], 0), (18, .iaload, 1, 0, 0, .null, [], 0), (19, .goto 4, 3, 0, 23, .null, [], 0), (22, .iconst 0, 1, 0, 0, .int (0), [], 0), (23, .ireturn, 1, 0, 0, .null, [], 0)]
def AM_X1_get : AMinfo := ((1, yX1_get, cX1_get, 2, (some .int)), am_r0_X1_get, (0, 0, false, false), (257, 255, 256, 1, 35, 2))
def am_r0_X1_set : List AMrow := [(0, .iload_n 1, 1, 1, 0, .null, [], 0), (1, .ifCond .lt 19, 3, 0, 20, .null, [], 0), (4, .iload_n 1, 1, 1, 0, .null, [], 0), (5, .aload_n 0, 1, 0, 0, .null, [], 0), (6, .getfield 13, 3, 1, 0, .null, [], 65), (9, .arraylength, 1, 0, 0, .null, [], 0), (10, .if_icmp .ge 10, 3, 0, 20, .null, [], 0), (13, .aload_n 0, 1, 0, 0, .null, [], 0), (14, .getfield 13, 3, 1, 0, .null, [], 65), (17, .iload_n 1, 1, 1, 0, .null, [], 0), (18, .iload_n 2, 1, 2, 0, .null, [], 0), (19, .iastore, 1, 0, 0, .null, [], 0), (20, .return_, 1, 0, 0, .null, [], 0)]
def AM_X1_set : AMinfo := ((1, yX1_set, cX1_set, 3, none), am_r0_X1_set, (0, 0, false, false), (74, 72, 73, 1, 35, 3))
def am_r0_X1_copyFrom : List AMrow := [(0, .iconst 0, 1, 0, 0, .int (0), [], 0), (1, .istore_n 2, 1, 2, 0, .null, [], 0), (2, .iload_n 2, 1, 2, 0, .null, [], 0), (3, .aload_n 0, 1, 0, 0, .null, [], 0), (4, .getfield 13, 3, 1, 0, .null, [], 65), (7, .arraylength, 1, 0, 0, .null, [], 0), (8, .if_icmp .ge 20, 3, 0, 28, .null, [], 0), (11, .aload_n 0, 1, 0, 0, .null, [], 0), (12, .getfield 13, 3, 1, 0, .null, [], 65), (15, .iload_n 2, 1, 2, 0, .null, [], 0), (16, .aload_n 1, 1, 1, 0, .null, [], 0), (17, .iload_n 2, 1, 2, 0, .null, [], 0), (18, .invokevirtual 19, 3, 11, 2, .int 0, [], 357), (21, .iastore, 1, 0, 0, .null, [], 0), (22, .iinc 2 1, 3, 2, 0, .int (1), [], 0), (25, .goto (-23), 3, 0, 2, .null, [], 0), (28, .return_, 1, 0, 0, .null, [], 0)]
def AM_X1_copyFrom : AMinfo := ((1, yX1_copyFrom, cX1_copyFrom, 3, none), am_r0_X1_copyFrom, (1, 21, false, false), (356, 354, 355, 1, 35, 2))
def am_r0_X2_init : List AMrow := [(0, .aload_n 0, 1, 0, 0, .null, [], 0), (1, .invokespecial 3, 3, 999, 0, .null, [], 200), (4, .aload_n 0, 1, 0, 0, .null, [], 0), (5, .new 9, 3, 1, 0, .null, [], 201), (8, .dup, 1, 0, 0, .null, [], 0), (9, .bipush 7, 2, 0, 0, .int (7), [], 0), (11, .invokespecial 11, 3, 10, 2, .int 0, [], 202), (14, .putfield 14, 3, 2, 0, .null, [], 203), (17, .aload_n 0, 1, 0, 0, .null, [], 0), (18, .new 9, 3, 1, 0, .null, [], 201), (21, .dup, 1, 0, 0, .null, [], 0), (22, .bipush 7, 2, 0, 0, .int (7), [], 0), (24, .invokespecial 11, 3, 10, 2, .int 0, [], 202), (27, .putfield 20, 3, 2, 1, .null, [], 205), (30, .aload_n 0, 1, 0, 0, .null, [], 0), (31, .new 9, 3, 1, 0, .null, [], 201), (34, .dup, 1, 0, 0, .null, [], 0), (35, .sipush 2188, 3, 0, 0, .int (2188), [], 0), (38, .invokespecial 11, 3, 10, 2, .int 0, [], 202), (41, .putfield 23, 3, 2, 2, .null, [], 206), (44, .aload_n 0, 1, 0, 0, .null, [], 0), (45, .iconst 0, 1, 0, 0, .int (0), [], 0), (46, .putfield 26, 3, 2, 3, .null, [], 207), (49, .aload_n 0, 1, 0, 0, .null, [], 0), (50, .iconst 0, 1, 0, 0, .int (0), [], 0), (51, .putfield 30, 3, 2, 4, .null, [], 209), (54, .return_, 1, 0, 0, .null, [], 0)]
def AM_X2_init : AMinfo := ((2, yX2_init, cX2_init, 1, none), am_r0_X2_init, (2, 51, true, false), (199, 198, 0, 2, 39, 1))
def am_r0_X2_start : List AMrow := [(0, .aload_n 0, 1, 0, 0, .null, [], 0), (1, .getfield 14, 3, 2, 0, .null, [], 203), (4, .aload_n 1, 1, 1, 0, .null, [], 0), (5, .getfield 33, 3, 4, 3, .null, [], 83), (8, .invokevirtual 38, 3, 13, 2, .int 0, [], 529), (11, .return_, 1, 0, 0, .null, [], 0)]
def AM_X2_start : AMinfo := ((2, yX2_start, cX2_start, 2, none), am_r0_X2_start, (2, 43, false, false), (528, 526, 527, 1, 39, 2))
def am_r0_X2_passYear : List AMrow := [(0, .iconst 0, 1, 0, 0, .int (0), [], 0), (1, .istore_n 2, 1, 2, 0, .null, [], 0), (2, .iload_n 2, 1, 2, 0, .null, [], 0), (3, .bipush 7, 2, 0, 0, .int (7), [], 0), (5, .if_icmp .ge 23, 3, 0, 28, .null, [], 0), (8, .aload_n 0, 1, 0, 0, .null, [], 0), (9, .getfield 20, 3, 2, 1, .null, [], 205), (12, .iload_n 2, 1, 2, 0, .null, [], 0), (13, .aload_n 0, 1, 0, 0, .null, [], 0), (14, .iload_n 2, 1, 2, 0, .null, [], 0), (15, .aload_n 1, 1, 1, 0, .null, [], 0), (16, .invokevirtual 42, 3, 17, 3, .int 0, [], 534), (19, .invokevirtual 46, 3, 12, 3, .int 0, [], 545), (22, .iinc 2 1, 3, 2, 0, .int (1), [], 0), (25, .goto (-23), 3, 0, 2, .null, [], 0), (28, .aload_n 0, 1, 0, 0, .null, [], 0), (29, .getfield 14, 3, 2, 0, .null, [], 203), (32, .aload_n 0, 1, 0, 0, .null, [], 0), (33, .getfield 20, 3, 2, 1, .null, [], 205), (36, .invokevirtual 38, 3, 13, 2, .int 0, [], 529), (39, .return_, 1, 0, 0, .null, [], 0)]
def AM_X2_passYear : AMinfo := ((2, yX2_passYear, cX2_passYear, 3, none), am_r0_X2_passYear, (3, 72, false, false), (533, 531, 532, 1, 39, 2))
def am_r0_X2_choiceOf : List AMrow := [(0, .aload_n 0, 1, 0, 0, .null, [], 0), (1, .getfield 14, 3, 2, 0, .null, [], 203), (4, .iload_n 1, 1, 1, 0, .null, [], 0), (5, .invokevirtual 50, 3, 11, 2, .int 0, [], 538), (8, .istore_n 3, 1, 3, 0, .null, [], 0), (9, .aload_n 2, 1, 2, 0, .null, [], 0), (10, .iload_n 1, 1, 1, 0, .null, [], 0), (11, .invokevirtual 54, 3, 29, 2, .int 0, [], 539), (14, .ifCond .eq 19, 3, 0, 33, .null, [], 0), (17, .aload_n 2, 1, 2, 0, .null, [], 0), (18, .getfield 58, 3, 4, 5, .null, [], 88), (21, .iload_n 1, 1, 1, 0, .null, [], 0), (22, .invokevirtual 50, 3, 11, 2, .int 0, [], 538), (25, .aload_n 2, 1, 2, 0, .null, [], 0), (26, .getfield 61, 3, 4, 2, .null, [], 80), (29, .iand, 1, 0, 0, .null, [], 0), (30, .goto 4, 3, 0, 34, .null, [], 0), (33, .iconst 0, 1, 0, 0, .int (0), [], 0), (34, .istore 4, 2, 4, 0, .null, [], 0), (36, .aload_n 0, 1, 0, 0, .null, [], 0), (37, .iload_n 3, 1, 3, 0, .null, [], 0), (38, .iload 4, 2, 4, 0, .null, [], 0), (40, .invokevirtual 64, 3, 18, 3, .int 0, [], 540), (43, .istore 5, 2, 5, 0, .null, [], 0), (45, .iconst 0, 1, 0, 0, .int (0), [], 0), (46, .istore 6, 2, 6, 0, .null, [], 0), (48, .iload 6, 2, 6, 0, .null, [], 0), (50, .iconst 3, 1, 0, 0, .int (3), [], 0), (51, .if_icmp .ge 33, 3, 0, 84, .null, [], 0), (54, .aload_n 0, 1, 0, 0, .null, [], 0), (55, .iload 6, 2, 6, 0, .null, [], 0), (57, .iload 4, 2, 4, 0, .null, [], 0), (59, .invokevirtual 64, 3, 18, 3, .int 0, [], 540), (62, .istore 7, 2, 7, 0, .null, [], 0), (64, .iload 7, 2, 7, 0, .null, [], 0), (66, .iload 5, 2, 5, 0, .null, [], 0), (68, .if_icmp .le 10, 3, 0, 78, .null, [], 0), (71, .iload 7, 2, 7, 0, .null, [], 0), (73, .istore 5, 2, 5, 0, .null, [], 0), (75, .iload 6, 2, 6, 0, .null, [], 0), (77, .istore_n 3, 1, 3, 0, .null, [], 0), (78, .iinc 6 1, 3, 6, 0, .int (1), [], 0), (81, .goto (-33), 3, 0, 48, .null, [], 0), (84, .iload_n 3, 1, 3, 0, .null, [], 0), (85, .ireturn, 1, 0, 0, .null, [], 0)]
def AM_X2_choiceOf : AMinfo := ((2, yX2_choiceOf, cX2_choiceOf, 8, (some .int)), am_r0_X2_choiceOf, (2, 45, false, false), (537, 536, 7, 1, 39, 3))
def am_r0_X2_holdersOf : List AMrow := [(0, .iconst 0, 1, 0, 0, .int (0), [], 0), (1, .istore_n 3, 1, 3, 0, .null, [], 0), (2, .iconst 0, 1, 0, 0, .int (0), [], 0), (3, .istore 4, 2, 4, 0, .null, [], 0), (5, .iload 4, 2, 4, 0, .null, [], 0), (7, .bipush 7, 2, 0, 0, .int (7), [], 0), (9, .if_icmp .ge 39, 3, 0, 48, .null, [], 0), (12, .iload_n 3, 1, 3, 0, .null, [], 0), (13, .iload_n 2, 1, 2, 0, .null, [], 0), (14, .iload 4, 2, 4, 0, .null, [], 0), (16, .invokestatic 68, 3, 82, 2, .int 1, [], 544), (19, .ifCond .eq 20, 3, 0, 39, .null, [], 0), (22, .aload_n 0, 1, 0, 0, .null, [], 0), (23, .getfield 14, 3, 2, 0, .null, [], 203), (26, .iload 4, 2, 4, 0, .null, [], 0), (28, .invokevirtual 50, 3, 11, 2, .int 0, [], 538), (31, .iload_n 1, 1, 1, 0, .null, [], 0), (32, .if_icmp .ne 7, 3, 0, 39, .null, [], 0), (35, .iconst 1, 1, 0, 0, .int (1), [], 0), (36, .goto 4, 3, 0, 40, .null, [], 0), (39, .iconst 0, 1, 0, 0, .int (0), [], 0), (40, .iadd, 1, 0, 0, .null, [], 0), (41, .istore_n 3, 1, 3, 0, .null, [], 0), (42, .iinc 4 1, 3, 4, 0, .int (1), [], 0), (45, .goto (-40), 3, 0, 5, .null, [], 0), (48, .iload_n 3, 1, 3, 0, .null, [], 0), (49, .ireturn, 1, 0, 0, .null, [], 0)]
def AM_X2_holdersOf : AMinfo := ((2, yX2_holdersOf, cX2_holdersOf, 5, (some .int)), am_r0_X2_holdersOf, (1, 21, false, false), (543, 542, 8, 1, 39, 3))
def am_r0_X2_findAgain : List AMrow := [(0, .aload_n 0, 1, 0, 0, .null, [], 0), (1, .aload_n 1, 1, 1, 0, .null, [], 0), (2, .invokevirtual 72, 3, 15, 2, .int 0, [], 554), (5, .iconst 0, 1, 0, 0, .int (0), [], 0), (6, .istore_n 2, 1, 2, 0, .null, [], 0), (7, .iload_n 2, 1, 2, 0, .null, [], 0), (8, .sipush 2187, 3, 0, 0, .int (2187), [], 0), (11, .if_icmp .gt 68, 3, 0, 79, .null, [], 0), (14, .aload_n 0, 1, 0, 0, .null, [], 0), (15, .invokevirtual 76, 3, 20, 1, .int 0, [], 555), (18, .istore_n 3, 1, 3, 0, .null, [], 0), (19, .iconst 0, 1, 0, 0, .int (0), [], 0), (20, .istore 4, 2, 4, 0, .null, [], 0), (22, .iload 4, 2, 4, 0, .null, [], 0), (24, .iload_n 2, 1, 2, 0, .null, [], 0), (25, .if_icmp .ge 34, 3, 0, 59, .null, [], 0), (28, .aload_n 0, 1, 0, 0, .null, [], 0), (29, .getfield 23, 3, 2, 2, .null, [], 206), (32, .iload 4, 2, 4, 0, .null, [], 0), (34, .invokevirtual 50, 3, 11, 2, .int 0, [], 538), (37, .iload_n 3, 1, 3, 0, .null, [], 0), (38, .if_icmp .ne 15, 3, 0, 53, .null, [], 0), (41, .aload_n 0, 1, 0, 0, .null, [], 0), (42, .iload_n 2, 1, 2, 0, .null, [], 0), (43, .putfield 26, 3, 2, 3, .null, [], 207), (46, .aload_n 0, 1, 0, 0, .null, [], 0), (47, .iload 4, 2, 4, 0, .null, [], 0), (49, .putfield 30, 3, 2, 4, .null, [], 209), (52, .return_, 1, 0, 0, .null, [], 0), (53, .iinc 4 1, 3, 4, 0, .int (1), [], 0), (56, .goto (-34), 3, 0, 22, .null, [], 0), (59, .aload_n 0, 1, 0, 0, .null, [], 0), (60, .getfield 23, 3, 2, 2, .null, [], 206), (63, .iload_n 2, 1, 2, 0, .null, [], 0), (64, .iload_n 3, 1, 3, 0, .null, [], 0), (65, .invokevirtual 46, 3, 12, 3, .int 0, [], 545), (68, .aload_n 0, 1, 0, 0, .null, [], 0), (69, .aload_n 1, 1, 1, 0, .null, [], 0), (70, .invokevirtual 80, 3, 16, 2, .int 0, [], 559), (73, .iinc 2 1, 3, 2, 0, .int (1), [], 0), (76, .goto (-69), 3, 0, 7, .null, [], 0), (79, .return_, 1, 0, 0, .null, [], 0)]
def AM_X2_findAgain : AMinfo := ((2, yX2_findAgain, cX2_findAgain, 5, none), am_r0_X2_findAgain, (4, 94, false, false), (553, 551, 552, 1, 39, 2))
def am_r0_X2_heldAsNumber : List AMrow := [(0, .iconst 0, 1, 0, 0, .int (0), [], 0), (1, .istore_n 1, 1, 1, 0, .null, [], 0), (2, .iconst 0, 1, 0, 0, .int (0), [], 0), (3, .istore_n 2, 1, 2, 0, .null, [], 0), (4, .iload_n 2, 1, 2, 0, .null, [], 0), (5, .bipush 7, 2, 0, 0, .int (7), [], 0), (7, .if_icmp .ge 22, 3, 0, 29, .null, [], 0), (10, .iload_n 1, 1, 1, 0, .null, [], 0), (11, .iconst 3, 1, 0, 0, .int (3), [], 0), (12, .imul, 1, 0, 0, .null, [], 0), (13, .aload_n 0, 1, 0, 0, .null, [], 0), (14, .getfield 14, 3, 2, 0, .null, [], 203), (17, .iload_n 2, 1, 2, 0, .null, [], 0), (18, .invokevirtual 50, 3, 11, 2, .int 0, [], 538), (21, .iadd, 1, 0, 0, .null, [], 0), (22, .istore_n 1, 1, 1, 0, .null, [], 0), (23, .iinc 2 1, 3, 2, 0, .int (1), [], 0), (26, .goto (-22), 3, 0, 4, .null, [], 0), (29, .iload_n 1, 1, 1, 0, .null, [], 0), (30, .ireturn, 1, 0, 0, .null, [], 0)]
def AM_X2_heldAsNumber : AMinfo := ((2, yX2_heldAsNumber, cX2_heldAsNumber, 3, (some .int)), am_r0_X2_heldAsNumber, (1, 21, false, false), (558, 557, 9, 1, 39, 1))
def am_r0_X3_init : List AMrow := [(0, .aload_n 0, 1, 0, 0, .null, [], 0), (1, .invokespecial 3, 3, 999, 0, .null, [], 163), (4, .aload_n 0, 1, 0, 0, .null, [], 0), (5, .new 9, 3, 4, 0, .null, [], 164), (8, .dup, 1, 0, 0, .null, [], 0), (9, .invokespecial 11, 3, 27, 1, .int 0, [], 165), (12, .putfield 12, 3, 3, 0, .null, [], 166), (15, .aload_n 0, 1, 0, 0, .null, [], 0), (16, .iconst 0, 1, 0, 0, .int (0), [], 0), (17, .putfield 18, 3, 3, 1, .null, [], 168), (20, .aload_n 0, 1, 0, 0, .null, [], 0), (21, .bipush (-6), 2, 0, 0, .int (-6), [], 0), (23, .putfield 22, 3, 3, 2, .null, [], 170), (26, .aload_n 0, 1, 0, 0, .null, [], 0), (27, .bipush (-6), 2, 0, 0, .int (-6), [], 0), (29, .putfield 25, 3, 3, 3, .null, [], 172), (32, .aload_n 0, 1, 0, 0, .null, [], 0), (33, .bipush (-6), 2, 0, 0, .int (-6), [], 0), (35, .putfield 28, 3, 3, 4, .null, [], 174), (38, .aload_n 0, 1, 0, 0, .null, [], 0), (39, .bipush (-6), 2, 0, 0, .int (-6), [], 0), (41, .putfield 31, 3, 3, 5, .null, [], 176), (44, .aload_n 0, 1, 0, 0, .null, [], 0), (45, .iconst 0, 1, 0, 0, .int (0), [], 0), (46, .putfield 34, 3, 3, 6, .null, [], 178), (49, .return_, 1, 0, 0, .null, [], 0)]
def AM_X3_init : AMinfo := ((3, yX3_init, cX3_init, 1, none), am_r0_X3_init, (3, 71, true, false), (162, 161, 0, 2, 38, 1))
def am_r0_X3_start : List AMrow := [(0, .aload_n 0, 1, 0, 0, .null, [], 0), (1, .getfield 12, 3, 3, 0, .null, [], 166), (4, .aload_n 1, 1, 1, 0, .null, [], 0), (5, .invokevirtual 37, 3, 28, 2, .int 0, [], 349), (8, .aload_n 0, 1, 0, 0, .null, [], 0), (9, .iconst 0, 1, 0, 0, .int (0), [], 0), (10, .putfield 18, 3, 3, 1, .null, [], 168), (13, .aload_n 0, 1, 0, 0, .null, [], 0), (14, .bipush (-6), 2, 0, 0, .int (-6), [], 0), (16, .putfield 22, 3, 3, 2, .null, [], 170), (19, .aload_n 0, 1, 0, 0, .null, [], 0), (20, .bipush (-6), 2, 0, 0, .int (-6), [], 0), (22, .putfield 25, 3, 3, 3, .null, [], 172), (25, .aload_n 0, 1, 0, 0, .null, [], 0), (26, .bipush (-6), 2, 0, 0, .int (-6), [], 0), (28, .putfield 28, 3, 3, 4, .null, [], 174), (31, .aload_n 0, 1, 0, 0, .null, [], 0), (32, .bipush (-6), 2, 0, 0, .int (-6), [], 0), (34, .putfield 31, 3, 3, 5, .null, [], 176), (37, .aload_n 0, 1, 0, 0, .null, [], 0), (38, .iconst 0, 1, 0, 0, .int (0), [], 0), (39, .putfield 34, 3, 3, 6, .null, [], 178), (42, .return_, 1, 0, 0, .null, [], 0)]
def AM_X3_start : AMinfo := ((3, yX3_start, cX3_start, 2, none), am_r0_X3_start, (3, 64, false, false), (348, 347, 0, 1, 38, 2))
def am_r0_X3_tellYears : List AMrow := [(0, .aload_n 0, 1, 0, 0, .null, [], 0), (1, .aload_n 2, 1, 2, 0, .null, [], 0), (2, .invokevirtual 41, 3, 22, 2, .int 0, [], 345), (5, .aload_n 1, 1, 1, 0, .null, [], 0), (6, .invokevirtual 44, 3, 2, 1, .int 0, [], 358), (9, .bipush (-6), 2, 0, 0, .int (-6), [], 0), (11, .if_icmp .eq 5, 3, 0, 16, .null, [], 0), (14, .iconst 0, 1, 0, 0, .int (0), [], 0), (15, .ireturn, 1, 0, 0, .null, [], 0), (16, .iconst 0, 1, 0, 0, .int (0), [], 0), (17, .istore_n 3, 1, 3, 0, .null, [], 0), (18, .iload_n 3, 1, 3, 0, .null, [], 0), (19, .aload_n 1, 1, 1, 0, .null, [], 0), (20, .getfield 50, 3, 0, 1, .null, [], 151), (23, .if_icmp .ge 66, 3, 0, 89, .null, [], 0), (26, .aload_n 0, 1, 0, 0, .null, [], 0), (27, .getfield 22, 3, 3, 2, .null, [], 170), (30, .bipush (-6), 2, 0, 0, .int (-6), [], 0), (32, .if_icmp .ne 57, 3, 0, 89, .null, [], 0), (35, .aload_n 1, 1, 1, 0, .null, [], 0), (36, .iload_n 3, 1, 3, 0, .null, [], 0), (37, .invokevirtual 53, 3, 6, 2, .int 0, [], 359), (40, .ifCond .eq 43, 3, 0, 83, .null, [], 0), (43, .aload_n 0, 1, 0, 0, .null, [], 0), (44, .aload_n 1, 1, 1, 0, .null, [], 0), (45, .iload_n 3, 1, 3, 0, .null, [], 0), (46, .invokevirtual 57, 3, 7, 2, .int 0, [], 363), (49, .aload_n 1, 1, 1, 0, .null, [], 0), (50, .iload_n 3, 1, 3, 0, .null, [], 0), (51, .invokevirtual 61, 3, 8, 2, .int 0, [], 367), (54, .aload_n 1, 1, 1, 0, .null, [], 0), (55, .iload_n 3, 1, 3, 0, .null, [], 0), (56, .invokevirtual 64, 3, 9, 2, .int 0, [], 372), (59, .invokevirtual 67, 3, 26, 4, .int 0, [], 376), (62, .istore 4, 2, 4, 0, .null, [], 0), (64, .iload 4, 2, 4, 0, .null, [], 0), (66, .ifCond .eq 17, 3, 0, 83, .null, [], 0), (69, .aload_n 0, 1, 0, 0, .null, [], 0), (70, .aload_n 0, 1, 0, 0, .null, [], 0), (71, .getfield 18, 3, 3, 1, .null, [], 168), (74, .putfield 22, 3, 3, 2, .null, [], 170), (77, .aload_n 0, 1, 0, 0, .null, [], 0), (78, .iload 4, 2, 4, 0, .null, [], 0), (80, .putfield 25, 3, 3, 3, .null, [], 172), (83, .iinc 3 1, 3, 3, 0, .int (1), [], 0), (86, .goto (-68), 3, 0, 18, .null, [], 0), (89, .aload_n 0, 1, 0, 0, .null, [], 0), (90, .getfield 22, 3, 3, 2, .null, [], 170), (93, .bipush (-6), 2, 0, 0, .int (-6), [], 0), (95, .if_icmp .ne 7, 3, 0, 102, .null, [], 0), (98, .iconst 1, 1, 0, 0, .int (1), [], 0), (99, .goto 4, 3, 0, 103, .null, [], 0), (102, .iconst 0, 1, 0, 0, .int (0), [], 0), (103, .ireturn, 1, 0, 0, .null, [], 0)]
def AM_X3_tellYears : AMinfo := ((3, yX3_tellYears, cX3_tellYears, 5, (some .boolean)), am_r0_X3_tellYears, (5, 122, false, false), (344, 342, 343, 1, 38, 3))
def am_r0_X3_tellBook : List AMrow := [(0, .aload_n 0, 1, 0, 0, .null, [], 0), (1, .aload_n 3, 1, 3, 0, .null, [], 0), (2, .invokevirtual 41, 3, 22, 2, .int 0, [], 345), (5, .iload_n 1, 1, 1, 0, .null, [], 0), (6, .istore 4, 2, 4, 0, .null, [], 0), (8, .iconst 0, 1, 0, 0, .int (0), [], 0), (9, .istore 5, 2, 5, 0, .null, [], 0), (11, .iload 5, 2, 5, 0, .null, [], 0), (13, .iload_n 2, 1, 2, 0, .null, [], 0), (14, .if_icmp .ge 71, 3, 0, 85, .null, [], 0), (17, .bipush 75, 2, 0, 0, .int (75), [], 0), (19, .iload 4, 2, 4, 0, .null, [], 0), (21, .imul, 1, 0, 0, .null, [], 0), (22, .bipush 74, 2, 0, 0, .int (74), [], 0), (24, .iadd, 1, 0, 0, .null, [], 0), (25, .ldc 71, 2, 0, 0, .int (65537), [], 583), (27, .irem, 1, 0, 0, .null, [], 0), (28, .istore 4, 2, 4, 0, .null, [], 0), (30, .iload 4, 2, 4, 0, .null, [], 0), (32, .bipush 8, 2, 0, 0, .int (8), [], 0), (34, .irem, 1, 0, 0, .null, [], 0), (35, .invokestatic 72, 3, 25, 1, .int 0, [], 584), (38, .istore 6, 2, 6, 0, .null, [], 0), (40, .aload_n 0, 1, 0, 0, .null, [], 0), (41, .iload 6, 2, 6, 0, .null, [], 0), (43, .iload 4, 2, 4, 0, .null, [], 0), (45, .bipush 8, 2, 0, 0, .int (8), [], 0), (47, .idiv, 1, 0, 0, .null, [], 0), (48, .bipush 7, 2, 0, 0, .int (7), [], 0), (50, .irem, 1, 0, 0, .null, [], 0), (51, .iload 6, 2, 6, 0, .null, [], 0), (53, .iconst 2, 1, 0, 0, .int (2), [], 0), (54, .if_icmp .ne 13, 3, 0, 67, .null, [], 0), (57, .iload 4, 2, 4, 0, .null, [], 0), (59, .bipush 56, 2, 0, 0, .int (56), [], 0), (61, .idiv, 1, 0, 0, .null, [], 0), (62, .iconst 3, 1, 0, 0, .int (3), [], 0), (63, .irem, 1, 0, 0, .null, [], 0), (64, .goto 11, 3, 0, 75, .null, [], 0), (67, .iload 4, 2, 4, 0, .null, [], 0), (69, .bipush 56, 2, 0, 0, .int (56), [], 0), (71, .idiv, 1, 0, 0, .null, [], 0), (72, .bipush 8, 2, 0, 0, .int (8), [], 0), (74, .irem, 1, 0, 0, .null, [], 0), (75, .invokevirtual 67, 3, 26, 4, .int 0, [], 376), (78, .pop, 1, 0, 0, .null, [], 0), (79, .iinc 5 1, 3, 5, 0, .int (1), [], 0), (82, .goto (-71), 3, 0, 11, .null, [], 0), (85, .return_, 1, 0, 0, .null, [], 0)]
def AM_X3_tellBook : AMinfo := ((3, yX3_tellBook, cX3_tellBook, 7, none), am_r0_X3_tellBook, (5, 122, false, false), (582, 580, 581, 1, 38, 4))
def am_r0_X3_kindDrawn : List AMrow := [(0, .iload_n 0, 1, 0, 0, .null, [], 0), (1, .iconst 3, 1, 0, 0, .int (3), [], 0), (2, .if_icmp .ge 5, 3, 0, 7, .null, [], 0), (5, .iconst 0, 1, 0, 0, .int (0), [], 0), (6, .ireturn, 1, 0, 0, .null, [], 0), (7, .iload_n 0, 1, 0, 0, .null, [], 0), (8, .bipush 6, 2, 0, 0, .int (6), [], 0), (10, .if_icmp .ge 5, 3, 0, 15, .null, [], 0), (13, .iconst 1, 1, 0, 0, .int (1), [], 0), (14, .ireturn, 1, 0, 0, .null, [], 0), (15, .iload_n 0, 1, 0, 0, .null, [], 0), (16, .bipush 6, 2, 0, 0, .int (6), [], 0), (18, .if_icmp .ne 7, 3, 0, 25, .null, [], 0), (21, .iconst 3, 1, 0, 0, .int (3), [], 0), (22, .goto 4, 3, 0, 26, .null, [], 0), (25, .iconst 2, 1, 0, 0, .int (2), [], 0), (26, .ireturn, 1, 0, 0, .null, [], 0)]
def AM_X3_kindDrawn : AMinfo := ((3, yX3_kindDrawn, cX3_kindDrawn, 1, (some .int)), am_r0_X3_kindDrawn, (0, 0, false, false), (586, 585, 0, 0, 38, 1))
def am_r0_X3_tellAct : List AMrow := [(0, .aload_n 0, 1, 0, 0, .null, [], 0), (1, .getfield 12, 3, 3, 0, .null, [], 166), (4, .iload_n 1, 1, 1, 0, .null, [], 0), (5, .iload_n 2, 1, 2, 0, .null, [], 0), (6, .iload_n 3, 1, 3, 0, .null, [], 0), (7, .invokevirtual 75, 3, 42, 4, .int 0, [], 380), (10, .istore 4, 2, 4, 0, .null, [], 0), (12, .iload 4, 2, 4, 0, .null, [], 0), (14, .ifCond .eq 6, 3, 0, 20, .null, [], 0), (17, .iload 4, 2, 4, 0, .null, [], 0), (19, .ireturn, 1, 0, 0, .null, [], 0), (20, .aload_n 0, 1, 0, 0, .null, [], 0), (21, .getfield 12, 3, 3, 0, .null, [], 166), (24, .iload_n 1, 1, 1, 0, .null, [], 0), (25, .iload_n 2, 1, 2, 0, .null, [], 0), (26, .iload_n 3, 1, 3, 0, .null, [], 0), (27, .invokevirtual 78, 3, 43, 4, .int 0, [], 389), (30, .ifCond .eq 33, 3, 0, 63, .null, [], 0), (33, .aload_n 0, 1, 0, 0, .null, [], 0), (34, .getfield 34, 3, 3, 6, .null, [], 178), (37, .ifCond .ne 16, 3, 0, 53, .null, [], 0), (40, .aload_n 0, 1, 0, 0, .null, [], 0), (41, .aload_n 0, 1, 0, 0, .null, [], 0), (42, .getfield 18, 3, 3, 1, .null, [], 168), (45, .putfield 28, 3, 3, 4, .null, [], 174), (48, .aload_n 0, 1, 0, 0, .null, [], 0), (49, .iload_n 2, 1, 2, 0, .null, [], 0), (50, .putfield 31, 3, 3, 5, .null, [], 176), (53, .aload_n 0, 1, 0, 0, .null, [], 0), (54, .dup, 1, 0, 0, .null, [], 0), (55, .getfield 34, 3, 3, 6, .null, [], 178), (58, .iconst 1, 1, 0, 0, .int (1), [], 0), (59, .iadd, 1, 0, 0, .null, [], 0), (60, .putfield 34, 3, 3, 6, .null, [], 178), (63, .aload_n 0, 1, 0, 0, .null, [], 0), (64, .dup, 1, 0, 0, .null, [], 0), (65, .getfield 18, 3, 3, 1, .null, [], 168), (68, .iconst 1, 1, 0, 0, .int (1), [], 0), (69, .iadd, 1, 0, 0, .null, [], 0), (70, .putfield 18, 3, 3, 1, .null, [], 168), (73, .iconst 0, 1, 0, 0, .int (0), [], 0), (74, .ireturn, 1, 0, 0, .null, [], 0)]
def AM_X3_tellAct : AMinfo := ((3, yX3_tellAct, cX3_tellAct, 5, (some .int)), am_r0_X3_tellAct, (4, 98, false, false), (379, 378, 1, 1, 38, 4))
def am_r0_X4_init : List AMrow := [(0, .aload_n 0, 1, 0, 0, .null, [], 0), (1, .invokespecial 3, 3, 999, 0, .null, [], 55), (4, .aload_n 0, 1, 0, 0, .null, [], 0), (5, .new 9, 3, 1, 0, .null, [], 56), (8, .dup, 1, 0, 0, .null, [], 0), (9, .iconst 3, 1, 0, 0, .int (3), [], 0), (10, .invokespecial 11, 3, 10, 2, .int 0, [], 58), (13, .putfield 14, 3, 4, 0, .null, [], 75), (16, .aload_n 0, 1, 0, 0, .null, [], 0), (17, .iconst 3, 1, 0, 0, .int (3), [], 0), (18, .putfield 20, 3, 4, 1, .null, [], 77), (21, .aload_n 0, 1, 0, 0, .null, [], 0), (22, .iconst 0, 1, 0, 0, .int (0), [], 0), (23, .putfield 24, 3, 4, 2, .null, [], 79), (26, .aload_n 0, 1, 0, 0, .null, [], 0), (27, .new 9, 3, 1, 0, .null, [], 56), (30, .dup, 1, 0, 0, .null, [], 0), (31, .bipush 7, 2, 0, 0, .int (7), [], 0), (33, .invokespecial 11, 3, 10, 2, .int 0, [], 58), (36, .putfield 27, 3, 4, 3, .null, [], 82), (39, .aload_n 0, 1, 0, 0, .null, [], 0), (40, .new 9, 3, 1, 0, .null, [], 56), (43, .dup, 1, 0, 0, .null, [], 0), (44, .bipush 7, 2, 0, 0, .int (7), [], 0), (46, .invokespecial 11, 3, 10, 2, .int 0, [], 58), (49, .putfield 30, 3, 4, 4, .null, [], 85), (52, .aload_n 0, 1, 0, 0, .null, [], 0), (53, .new 9, 3, 1, 0, .null, [], 56), (56, .dup, 1, 0, 0, .null, [], 0), (57, .bipush 7, 2, 0, 0, .int (7), [], 0), (59, .invokespecial 11, 3, 10, 2, .int 0, [], 58), (62, .putfield 33, 3, 4, 5, .null, [], 87), (65, .aload_n 0, 1, 0, 0, .null, [], 0), (66, .iconst 0, 1, 0, 0, .int (0), [], 0), (67, .putfield 36, 3, 4, 6, .null, [], 89), (70, .aload_n 0, 1, 0, 0, .null, [], 0), (71, .new 9, 3, 1, 0, .null, [], 56), (74, .dup, 1, 0, 0, .null, [], 0), (75, .bipush 8, 2, 0, 0, .int (8), [], 0), (77, .invokespecial 11, 3, 10, 2, .int 0, [], 58), (80, .putfield 39, 3, 4, 7, .null, [], 91), (83, .aload_n 0, 1, 0, 0, .null, [], 0), (84, .new 9, 3, 1, 0, .null, [], 56), (87, .dup, 1, 0, 0, .null, [], 0), (88, .bipush 8, 2, 0, 0, .int (8), [], 0), (90, .invokespecial 11, 3, 10, 2, .int 0, [], 58), (93, .putfield 42, 3, 4, 8, .null, [], 93), (96, .aload_n 0, 1, 0, 0, .null, [], 0), (97, .iconst 0, 1, 0, 0, .int (0), [], 0), (98, .putfield 45, 3, 4, 9, .null, [], 94), (101, .aload_n 0, 1, 0, 0, .null, [], 0), (102, .new 9, 3, 1, 0, .null, [], 56), (105, .dup, 1, 0, 0, .null, [], 0), (106, .bipush 12, 2, 0, 0, .int (12), [], 0), (108, .invokespecial 11, 3, 10, 2, .int 0, [], 58), (111, .putfield 48, 3, 4, 10, .null, [], 96), (114, .aload_n 0, 1, 0, 0, .null, [], 0), (115, .new 9, 3, 1, 0, .null, [], 56), (118, .dup, 1, 0, 0, .null, [], 0), (119, .bipush 12, 2, 0, 0, .int (12), [], 0)]
def am_r1_X4_init : List AMrow := [(121, .invokespecial 11, 3, 10, 2, .int 0, [], 58), (124, .putfield 51, 3, 4, 11, .null, [], 98), (127, .aload_n 0, 1, 0, 0, .null, [], 0), (128, .new 9, 3, 1, 0, .null, [], 56), (131, .dup, 1, 0, 0, .null, [], 0), (132, .bipush 12, 2, 0, 0, .int (12), [], 0), (134, .invokespecial 11, 3, 10, 2, .int 0, [], 58), (137, .putfield 54, 3, 4, 12, .null, [], 100), (140, .aload_n 0, 1, 0, 0, .null, [], 0), (141, .iconst 0, 1, 0, 0, .int (0), [], 0), (142, .putfield 57, 3, 4, 13, .null, [], 102), (145, .aload_n 0, 1, 0, 0, .null, [], 0), (146, .iconst 0, 1, 0, 0, .int (0), [], 0), (147, .putfield 60, 3, 4, 14, .null, [], 104), (150, .aload_n 0, 1, 0, 0, .null, [], 0), (151, .ldc 63, 2, 0, 0, .int (524287), [], 70), (153, .putfield 64, 3, 4, 15, .null, [], 106), (156, .aload_n 0, 1, 0, 0, .null, [], 0), (157, .getfield 14, 3, 4, 0, .null, [], 75), (160, .iconst 0, 1, 0, 0, .int (0), [], 0), (161, .bipush (-3), 2, 0, 0, .int (-3), [], 0), (163, .invokevirtual 67, 3, 12, 3, .int 0, [], 71), (166, .aload_n 0, 1, 0, 0, .null, [], 0), (167, .getfield 14, 3, 4, 0, .null, [], 75), (170, .iconst 1, 1, 0, 0, .int (1), [], 0), (171, .iconst 0, 1, 0, 0, .int (0), [], 0), (172, .invokevirtual 67, 3, 12, 3, .int 0, [], 71), (175, .aload_n 0, 1, 0, 0, .null, [], 0), (176, .getfield 14, 3, 4, 0, .null, [], 75), (179, .iconst 2, 1, 0, 0, .int (2), [], 0), (180, .iconst 3, 1, 0, 0, .int (3), [], 0), (181, .invokevirtual 67, 3, 12, 3, .int 0, [], 71), (184, .return_, 1, 0, 0, .null, [], 0)]
def AM_X4_init : AMinfo := ((4, yX4_init, cX4_init, 1, none), am_r0_X4_init ++ am_r1_X4_init, (2, 51, true, false), (54, 53, 0, 2, 34, 1))
def am_r0_X4_copyFrom : List AMrow := [(0, .aload_n 0, 1, 0, 0, .null, [], 0), (1, .getfield 14, 3, 4, 0, .null, [], 75), (4, .aload_n 1, 1, 1, 0, .null, [], 0), (5, .getfield 14, 3, 4, 0, .null, [], 75), (8, .invokevirtual 71, 3, 13, 2, .int 0, [], 353), (11, .aload_n 0, 1, 0, 0, .null, [], 0), (12, .aload_n 1, 1, 1, 0, .null, [], 0), (13, .getfield 20, 3, 4, 1, .null, [], 77), (16, .putfield 20, 3, 4, 1, .null, [], 77), (19, .aload_n 0, 1, 0, 0, .null, [], 0), (20, .aload_n 1, 1, 1, 0, .null, [], 0), (21, .getfield 24, 3, 4, 2, .null, [], 79), (24, .putfield 24, 3, 4, 2, .null, [], 79), (27, .aload_n 0, 1, 0, 0, .null, [], 0), (28, .getfield 27, 3, 4, 3, .null, [], 82), (31, .aload_n 1, 1, 1, 0, .null, [], 0), (32, .getfield 27, 3, 4, 3, .null, [], 82), (35, .invokevirtual 71, 3, 13, 2, .int 0, [], 353), (38, .aload_n 0, 1, 0, 0, .null, [], 0), (39, .getfield 30, 3, 4, 4, .null, [], 85), (42, .aload_n 1, 1, 1, 0, .null, [], 0), (43, .getfield 30, 3, 4, 4, .null, [], 85), (46, .invokevirtual 71, 3, 13, 2, .int 0, [], 353), (49, .aload_n 0, 1, 0, 0, .null, [], 0), (50, .getfield 33, 3, 4, 5, .null, [], 87), (53, .aload_n 1, 1, 1, 0, .null, [], 0), (54, .getfield 33, 3, 4, 5, .null, [], 87), (57, .invokevirtual 71, 3, 13, 2, .int 0, [], 353), (60, .aload_n 0, 1, 0, 0, .null, [], 0), (61, .aload_n 1, 1, 1, 0, .null, [], 0), (62, .getfield 36, 3, 4, 6, .null, [], 89), (65, .putfield 36, 3, 4, 6, .null, [], 89), (68, .aload_n 0, 1, 0, 0, .null, [], 0), (69, .getfield 39, 3, 4, 7, .null, [], 91), (72, .aload_n 1, 1, 1, 0, .null, [], 0), (73, .getfield 39, 3, 4, 7, .null, [], 91), (76, .invokevirtual 71, 3, 13, 2, .int 0, [], 353), (79, .aload_n 0, 1, 0, 0, .null, [], 0), (80, .getfield 42, 3, 4, 8, .null, [], 93), (83, .aload_n 1, 1, 1, 0, .null, [], 0), (84, .getfield 42, 3, 4, 8, .null, [], 93), (87, .invokevirtual 71, 3, 13, 2, .int 0, [], 353), (90, .aload_n 0, 1, 0, 0, .null, [], 0), (91, .aload_n 1, 1, 1, 0, .null, [], 0), (92, .getfield 45, 3, 4, 9, .null, [], 94), (95, .putfield 45, 3, 4, 9, .null, [], 94), (98, .aload_n 0, 1, 0, 0, .null, [], 0), (99, .getfield 48, 3, 4, 10, .null, [], 96), (102, .aload_n 1, 1, 1, 0, .null, [], 0), (103, .getfield 48, 3, 4, 10, .null, [], 96), (106, .invokevirtual 71, 3, 13, 2, .int 0, [], 353), (109, .aload_n 0, 1, 0, 0, .null, [], 0), (110, .getfield 51, 3, 4, 11, .null, [], 98), (113, .aload_n 1, 1, 1, 0, .null, [], 0), (114, .getfield 51, 3, 4, 11, .null, [], 98), (117, .invokevirtual 71, 3, 13, 2, .int 0, [], 353), (120, .aload_n 0, 1, 0, 0, .null, [], 0), (121, .getfield 54, 3, 4, 12, .null, [], 100), (124, .aload_n 1, 1, 1, 0, .null, [], 0), (125, .getfield 54, 3, 4, 12, .null, [], 100)]
def am_r1_X4_copyFrom : List AMrow := [(128, .invokevirtual 71, 3, 13, 2, .int 0, [], 353), (131, .aload_n 0, 1, 0, 0, .null, [], 0), (132, .aload_n 1, 1, 1, 0, .null, [], 0), (133, .getfield 57, 3, 4, 13, .null, [], 102), (136, .putfield 57, 3, 4, 13, .null, [], 102), (139, .aload_n 0, 1, 0, 0, .null, [], 0), (140, .aload_n 1, 1, 1, 0, .null, [], 0), (141, .getfield 60, 3, 4, 14, .null, [], 104), (144, .putfield 60, 3, 4, 14, .null, [], 104), (147, .aload_n 0, 1, 0, 0, .null, [], 0), (148, .aload_n 1, 1, 1, 0, .null, [], 0), (149, .getfield 64, 3, 4, 15, .null, [], 106), (152, .putfield 64, 3, 4, 15, .null, [], 106), (155, .return_, 1, 0, 0, .null, [], 0)]
def AM_X4_copyFrom : AMinfo := ((4, yX4_copyFrom, cX4_copyFrom, 2, none), am_r0_X4_copyFrom ++ am_r1_X4_copyFrom, (2, 43, false, false), (352, 350, 351, 1, 34, 2))
def am_r0_X4_isThere : List AMrow := [(0, .aload_n 0, 1, 0, 0, .null, [], 0), (1, .getfield 24, 3, 4, 2, .null, [], 79), (4, .iload_n 1, 1, 1, 0, .null, [], 0), (5, .invokestatic 75, 3, 82, 2, .int 1, [], 281), (8, .ireturn, 1, 0, 0, .null, [], 0)]
def AM_X4_isThere : AMinfo := ((4, yX4_isThere, cX4_isThere, 2, (some .boolean)), am_r0_X4_isThere, (1, 21, false, false), (280, 278, 279, 1, 34, 2))
def am_r0_X4_areThere : List AMrow := [(0, .iload_n 1, 1, 1, 0, .null, [], 0), (1, .aload_n 0, 1, 0, 0, .null, [], 0), (2, .getfield 24, 3, 4, 2, .null, [], 79), (5, .iconst (-1), 1, 0, 0, .int (-1), [], 0), (6, .ixor, 1, 0, 0, .null, [], 0), (7, .iand, 1, 0, 0, .null, [], 0), (8, .ifCond .ne 7, 3, 0, 15, .null, [], 0), (11, .iconst 1, 1, 0, 0, .int (1), [], 0), (12, .goto 4, 3, 0, 16, .null, [], 0), (15, .iconst 0, 1, 0, 0, .int (0), [], 0), (16, .ireturn, 1, 0, 0, .null, [], 0)]
def AM_X4_areThere : AMinfo := ((4, yX4_areThere, cX4_areThere, 2, (some .boolean)), am_r0_X4_areThere, (0, 0, false, false), (454, 452, 453, 1, 34, 2))
def am_r0_X4_stands : List AMrow := [(0, .aload_n 0, 1, 0, 0, .null, [], 0), (1, .getfield 36, 3, 4, 6, .null, [], 89), (4, .iload_n 1, 1, 1, 0, .null, [], 0), (5, .invokestatic 75, 3, 82, 2, .int 1, [], 281), (8, .ireturn, 1, 0, 0, .null, [], 0)]
def AM_X4_stands : AMinfo := ((4, yX4_stands, cX4_stands, 2, (some .boolean)), am_r0_X4_stands, (1, 21, false, false), (388, 386, 387, 1, 34, 2))
def am_r0_X4_wallTold : List AMrow := [(0, .iload_n 2, 1, 2, 0, .null, [], 0), (1, .ifCond .ne 17, 3, 0, 18, .null, [], 0), (4, .aload_n 0, 1, 0, 0, .null, [], 0), (5, .getfield 39, 3, 4, 7, .null, [], 91), (8, .iload_n 1, 1, 1, 0, .null, [], 0), (9, .invokevirtual 79, 3, 11, 2, .int 0, [], 292), (12, .bipush 10, 2, 0, 0, .int (10), [], 0), (14, .iadd, 1, 0, 0, .null, [], 0), (15, .goto 11, 3, 0, 26, .null, [], 0), (18, .aload_n 0, 1, 0, 0, .null, [], 0), (19, .getfield 42, 3, 4, 8, .null, [], 93), (22, .iload_n 1, 1, 1, 0, .null, [], 0), (23, .invokevirtual 79, 3, 11, 2, .int 0, [], 292), (26, .ireturn, 1, 0, 0, .null, [], 0)]
def AM_X4_wallTold : AMinfo := ((4, yX4_wallTold, cX4_wallTold, 3, (some .int)), am_r0_X4_wallTold, (1, 21, false, false), (434, 432, 433, 1, 34, 3))
def am_r0_X4_setKin : List AMrow := [(0, .aload_n 0, 1, 0, 0, .null, [], 0), (1, .getfield 33, 3, 4, 5, .null, [], 87), (4, .iload_n 1, 1, 1, 0, .null, [], 0), (5, .invokevirtual 79, 3, 11, 2, .int 0, [], 292), (8, .iconst 1, 1, 0, 0, .int (1), [], 0), (9, .iload_n 2, 1, 2, 0, .null, [], 0), (10, .ishl, 1, 0, 0, .null, [], 0), (11, .iconst (-1), 1, 0, 0, .int (-1), [], 0), (12, .ixor, 1, 0, 0, .null, [], 0), (13, .iand, 1, 0, 0, .null, [], 0), (14, .istore 4, 2, 4, 0, .null, [], 0), (16, .aload_n 0, 1, 0, 0, .null, [], 0), (17, .getfield 33, 3, 4, 5, .null, [], 87), (20, .iload_n 1, 1, 1, 0, .null, [], 0), (21, .iload_n 3, 1, 3, 0, .null, [], 0), (22, .ifCond .eq 12, 3, 0, 34, .null, [], 0), (25, .iload 4, 2, 4, 0, .null, [], 0), (27, .iconst 1, 1, 0, 0, .int (1), [], 0), (28, .iload_n 2, 1, 2, 0, .null, [], 0), (29, .ishl, 1, 0, 0, .null, [], 0), (30, .ior, 1, 0, 0, .null, [], 0), (31, .goto 5, 3, 0, 36, .null, [], 0), (34, .iload 4, 2, 4, 0, .null, [], 0), (36, .invokevirtual 67, 3, 12, 3, .int 0, [], 71), (39, .return_, 1, 0, 0, .null, [], 0)]
def AM_X4_setKin : AMinfo := ((4, yX4_setKin, cX4_setKin, 5, none), am_r0_X4_setKin, (1, 22, false, false), (291, 289, 290, 1, 34, 4))
def am_r0_X4_kinTwos : List AMrow := [(0, .iconst 0, 1, 0, 0, .int (0), [], 0), (1, .istore_n 1, 1, 1, 0, .null, [], 0), (2, .iconst 0, 1, 0, 0, .int (0), [], 0), (3, .istore_n 2, 1, 2, 0, .null, [], 0), (4, .iload_n 2, 1, 2, 0, .null, [], 0), (5, .bipush 7, 2, 0, 0, .int (7), [], 0), (7, .if_icmp .ge 23, 3, 0, 30, .null, [], 0), (10, .iload_n 1, 1, 1, 0, .null, [], 0), (11, .aload_n 0, 1, 0, 0, .null, [], 0), (12, .getfield 33, 3, 4, 5, .null, [], 87), (15, .iload_n 2, 1, 2, 0, .null, [], 0), (16, .invokevirtual 79, 3, 11, 2, .int 0, [], 292), (19, .invokestatic 83, 3, 152, 1, .int 0, [], 297), (22, .iadd, 1, 0, 0, .null, [], 0), (23, .istore_n 1, 1, 1, 0, .null, [], 0), (24, .iinc 2 1, 3, 2, 0, .int (1), [], 0), (27, .goto (-23), 3, 0, 4, .null, [], 0), (30, .iload_n 1, 1, 1, 0, .null, [], 0), (31, .iconst 2, 1, 0, 0, .int (2), [], 0), (32, .idiv, 1, 0, 0, .null, [], 0), (33, .ireturn, 1, 0, 0, .null, [], 0)]
def AM_X4_kinTwos : AMinfo := ((4, yX4_kinTwos, cX4_kinTwos, 3, (some .int)), am_r0_X4_kinTwos, (1, 21, false, false), (296, 294, 295, 1, 34, 1))
def am_r0_X4_downFor : List AMrow := [(0, .aload_n 0, 1, 0, 0, .null, [], 0), (1, .getfield 14, 3, 4, 0, .null, [], 75), (4, .aload_n 0, 1, 0, 0, .null, [], 0), (5, .getfield 27, 3, 4, 3, .null, [], 82), (8, .iload_n 1, 1, 1, 0, .null, [], 0), (9, .invokevirtual 79, 3, 11, 2, .int 0, [], 292), (12, .invokevirtual 79, 3, 11, 2, .int 0, [], 292), (15, .ireturn, 1, 0, 0, .null, [], 0)]
def AM_X4_downFor : AMinfo := ((4, yX4_downFor, cX4_downFor, 2, (some .int)), am_r0_X4_downFor, (1, 21, false, false), (400, 398, 399, 1, 34, 2))
def am_r0_X4_carries : List AMrow := [(0, .iload_n 1, 1, 1, 0, .null, [], 0), (1, .aload_n 0, 1, 0, 0, .null, [], 0), (2, .getfield 14, 3, 4, 0, .null, [], 75), (5, .aload_n 0, 1, 0, 0, .null, [], 0), (6, .getfield 27, 3, 4, 3, .null, [], 82), (9, .iload_n 2, 1, 2, 0, .null, [], 0), (10, .invokevirtual 79, 3, 11, 2, .int 0, [], 292), (13, .invokevirtual 79, 3, 11, 2, .int 0, [], 292), (16, .isub, 1, 0, 0, .null, [], 0), (17, .invokestatic 88, 3, 997, 0, .null, [], 409), (20, .aload_n 0, 1, 0, 0, .null, [], 0), (21, .getfield 20, 3, 4, 1, .null, [], 77), (24, .if_icmp .gt 7, 3, 0, 31, .null, [], 0), (27, .iconst 1, 1, 0, 0, .int (1), [], 0), (28, .goto 4, 3, 0, 32, .null, [], 0), (31, .iconst 0, 1, 0, 0, .int (0), [], 0), (32, .ireturn, 1, 0, 0, .null, [], 0)]
def AM_X4_carries : AMinfo := ((4, yX4_carries, cX4_carries, 3, (some .boolean)), am_r0_X4_carries, (1, 30, false, false), (408, 406, 407, 1, 34, 3))
def am_r0_X4_wallsFor : List AMrow := [(0, .iconst 0, 1, 0, 0, .int (0), [], 0), (1, .istore_n 2, 1, 2, 0, .null, [], 0), (2, .iconst 0, 1, 0, 0, .int (0), [], 0), (3, .istore_n 3, 1, 3, 0, .null, [], 0), (4, .iload_n 3, 1, 3, 0, .null, [], 0), (5, .bipush 8, 2, 0, 0, .int (8), [], 0), (7, .if_icmp .ge 39, 3, 0, 46, .null, [], 0), (10, .aload_n 0, 1, 0, 0, .null, [], 0), (11, .iload_n 3, 1, 3, 0, .null, [], 0), (12, .invokevirtual 93, 3, 31, 2, .int 0, [], 385), (15, .ifCond .eq 25, 3, 0, 40, .null, [], 0), (18, .aload_n 0, 1, 0, 0, .null, [], 0), (19, .aload_n 0, 1, 0, 0, .null, [], 0), (20, .getfield 39, 3, 4, 7, .null, [], 91), (23, .iload_n 3, 1, 3, 0, .null, [], 0), (24, .invokevirtual 79, 3, 11, 2, .int 0, [], 292), (27, .iload_n 1, 1, 1, 0, .null, [], 0), (28, .invokevirtual 97, 3, 36, 3, .int 0, [], 405), (31, .ifCond .eq 9, 3, 0, 40, .null, [], 0), (34, .iload_n 2, 1, 2, 0, .null, [], 0), (35, .iconst 1, 1, 0, 0, .int (1), [], 0), (36, .iload_n 3, 1, 3, 0, .null, [], 0), (37, .ishl, 1, 0, 0, .null, [], 0), (38, .ior, 1, 0, 0, .null, [], 0), (39, .istore_n 2, 1, 2, 0, .null, [], 0), (40, .iinc 3 1, 3, 3, 0, .int (1), [], 0), (43, .goto (-39), 3, 0, 4, .null, [], 0), (46, .iload_n 2, 1, 2, 0, .null, [], 0), (47, .ireturn, 1, 0, 0, .null, [], 0)]
def AM_X4_wallsFor : AMinfo := ((4, yX4_wallsFor, cX4_wallsFor, 4, (some .int)), am_r0_X4_wallsFor, (2, 52, false, false), (446, 444, 445, 1, 34, 2))
def am_r0_X4_carriesAll : List AMrow := [(0, .iconst 0, 1, 0, 0, .int (0), [], 0), (1, .istore_n 3, 1, 3, 0, .null, [], 0), (2, .iload_n 3, 1, 3, 0, .null, [], 0), (3, .bipush 7, 2, 0, 0, .int (7), [], 0), (5, .if_icmp .ge 28, 3, 0, 33, .null, [], 0), (8, .iload_n 2, 1, 2, 0, .null, [], 0), (9, .iload_n 3, 1, 3, 0, .null, [], 0), (10, .invokestatic 75, 3, 82, 2, .int 1, [], 281), (13, .ifCond .eq 14, 3, 0, 27, .null, [], 0), (16, .aload_n 0, 1, 0, 0, .null, [], 0), (17, .iload_n 1, 1, 1, 0, .null, [], 0), (18, .iload_n 3, 1, 3, 0, .null, [], 0), (19, .invokevirtual 97, 3, 36, 3, .int 0, [], 405), (22, .ifCond .ne 5, 3, 0, 27, .null, [], 0), (25, .iconst 0, 1, 0, 0, .int (0), [], 0), (26, .ireturn, 1, 0, 0, .null, [], 0), (27, .iinc 3 1, 3, 3, 0, .int (1), [], 0), (30, .goto (-28), 3, 0, 2, .null, [], 0), (33, .iconst 1, 1, 0, 0, .int (1), [], 0), (34, .ireturn, 1, 0, 0, .null, [], 0)]
def AM_X4_carriesAll : AMinfo := ((4, yX4_carriesAll, cX4_carriesAll, 4, (some .boolean)), am_r0_X4_carriesAll, (2, 52, false, false), (462, 460, 461, 1, 34, 3))
def am_r0_X4_leansFor : List AMrow := [(0, .iconst 0, 1, 0, 0, .int (0), [], 0), (1, .istore_n 2, 1, 2, 0, .null, [], 0), (2, .bipush (-9), 2, 0, 0, .int (-9), [], 0), (4, .istore_n 3, 1, 3, 0, .null, [], 0), (5, .iload_n 3, 1, 3, 0, .null, [], 0), (6, .bipush 9, 2, 0, 0, .int (9), [], 0), (8, .if_icmp .gt 27, 3, 0, 35, .null, [], 0), (11, .aload_n 0, 1, 0, 0, .null, [], 0), (12, .iload_n 3, 1, 3, 0, .null, [], 0), (13, .iload_n 1, 1, 1, 0, .null, [], 0), (14, .invokevirtual 100, 3, 38, 3, .int 0, [], 459), (17, .ifCond .eq 12, 3, 0, 29, .null, [], 0), (20, .iload_n 2, 1, 2, 0, .null, [], 0), (21, .iconst 1, 1, 0, 0, .int (1), [], 0), (22, .iload_n 3, 1, 3, 0, .null, [], 0), (23, .bipush 9, 2, 0, 0, .int (9), [], 0), (25, .iadd, 1, 0, 0, .null, [], 0), (26, .ishl, 1, 0, 0, .null, [], 0), (27, .ior, 1, 0, 0, .null, [], 0), (28, .istore_n 2, 1, 2, 0, .null, [], 0), (29, .iinc 3 1, 3, 3, 0, .int (1), [], 0), (32, .goto (-27), 3, 0, 5, .null, [], 0), (35, .iload_n 2, 1, 2, 0, .null, [], 0), (36, .ireturn, 1, 0, 0, .null, [], 0)]
def AM_X4_leansFor : AMinfo := ((4, yX4_leansFor, cX4_leansFor, 4, (some .int)), am_r0_X4_leansFor, (3, 75, false, false), (458, 456, 457, 1, 34, 2))
def am_r0_X4_stepsFrom : List AMrow := [(0, .iload_n 1, 1, 1, 0, .null, [], 0), (1, .istore_n 3, 1, 3, 0, .null, [], 0), (2, .iconst 0, 1, 0, 0, .int (0), [], 0), (3, .istore 4, 2, 4, 0, .null, [], 0), (5, .iload 4, 2, 4, 0, .null, [], 0), (7, .bipush 12, 2, 0, 0, .int (12), [], 0), (9, .if_icmp .ge 100, 3, 0, 109, .null, [], 0), (12, .aload_n 0, 1, 0, 0, .null, [], 0), (13, .getfield 45, 3, 4, 9, .null, [], 94), (16, .iload 4, 2, 4, 0, .null, [], 0), (18, .invokestatic 75, 3, 82, 2, .int 1, [], 281), (21, .ifCond .eq 82, 3, 0, 103, .null, [], 0), (24, .aload_n 0, 1, 0, 0, .null, [], 0), (25, .aload_n 0, 1, 0, 0, .null, [], 0), (26, .getfield 54, 3, 4, 12, .null, [], 100), (29, .iload 4, 2, 4, 0, .null, [], 0), (31, .invokevirtual 79, 3, 11, 2, .int 0, [], 292), (34, .iload_n 2, 1, 2, 0, .null, [], 0), (35, .invokevirtual 97, 3, 36, 3, .int 0, [], 405), (38, .ifCond .eq 65, 3, 0, 103, .null, [], 0), (41, .aload_n 0, 1, 0, 0, .null, [], 0), (42, .getfield 48, 3, 4, 10, .null, [], 96), (45, .iload 4, 2, 4, 0, .null, [], 0), (47, .invokevirtual 79, 3, 11, 2, .int 0, [], 292), (50, .istore 5, 2, 5, 0, .null, [], 0), (52, .aload_n 0, 1, 0, 0, .null, [], 0), (53, .getfield 51, 3, 4, 11, .null, [], 98), (56, .iload 4, 2, 4, 0, .null, [], 0), (58, .invokevirtual 79, 3, 11, 2, .int 0, [], 292), (61, .istore 6, 2, 6, 0, .null, [], 0), (63, .iload_n 3, 1, 3, 0, .null, [], 0), (64, .iload_n 1, 1, 1, 0, .null, [], 0), (65, .iload 5, 2, 5, 0, .null, [], 0), (67, .invokestatic 75, 3, 82, 2, .int 1, [], 281), (70, .ifCond .eq 10, 3, 0, 80, .null, [], 0), (73, .iconst 1, 1, 0, 0, .int (1), [], 0), (74, .iload 6, 2, 6, 0, .null, [], 0), (76, .ishl, 1, 0, 0, .null, [], 0), (77, .goto 4, 3, 0, 81, .null, [], 0), (80, .iconst 0, 1, 0, 0, .int (0), [], 0), (81, .ior, 1, 0, 0, .null, [], 0), (82, .istore_n 3, 1, 3, 0, .null, [], 0), (83, .iload_n 3, 1, 3, 0, .null, [], 0), (84, .iload_n 1, 1, 1, 0, .null, [], 0), (85, .iload 6, 2, 6, 0, .null, [], 0), (87, .invokestatic 75, 3, 82, 2, .int 1, [], 281), (90, .ifCond .eq 10, 3, 0, 100, .null, [], 0), (93, .iconst 1, 1, 0, 0, .int (1), [], 0), (94, .iload 5, 2, 5, 0, .null, [], 0), (96, .ishl, 1, 0, 0, .null, [], 0), (97, .goto 4, 3, 0, 101, .null, [], 0), (100, .iconst 0, 1, 0, 0, .int (0), [], 0), (101, .ior, 1, 0, 0, .null, [], 0), (102, .istore_n 3, 1, 3, 0, .null, [], 0), (103, .iinc 4 1, 3, 4, 0, .int (1), [], 0), (106, .goto (-101), 3, 0, 5, .null, [], 0), (109, .iload_n 3, 1, 3, 0, .null, [], 0), (110, .ireturn, 1, 0, 0, .null, [], 0)]
def AM_X4_stepsFrom : AMinfo := ((4, yX4_stepsFrom, cX4_stepsFrom, 7, (some .int)), am_r0_X4_stepsFrom, (2, 52, false, false), (491, 489, 490, 1, 34, 3))
def am_r0_X4_doubtOfAll : List AMrow := [(0, .iconst 0, 1, 0, 0, .int (0), [], 0), (1, .istore_n 1, 1, 1, 0, .null, [], 0), (2, .iconst 0, 1, 0, 0, .int (0), [], 0), (3, .istore_n 2, 1, 2, 0, .null, [], 0), (4, .iload_n 2, 1, 2, 0, .null, [], 0), (5, .bipush 7, 2, 0, 0, .int (7), [], 0), (7, .if_icmp .ge 32, 3, 0, 39, .null, [], 0), (10, .iload_n 1, 1, 1, 0, .null, [], 0), (11, .aload_n 0, 1, 0, 0, .null, [], 0), (12, .iload_n 2, 1, 2, 0, .null, [], 0), (13, .invokevirtual 103, 3, 29, 2, .int 0, [], 384), (16, .ifCond .eq 14, 3, 0, 30, .null, [], 0), (19, .aload_n 0, 1, 0, 0, .null, [], 0), (20, .getfield 30, 3, 4, 4, .null, [], 85), (23, .iload_n 2, 1, 2, 0, .null, [], 0), (24, .invokevirtual 79, 3, 11, 2, .int 0, [], 292), (27, .goto 4, 3, 0, 31, .null, [], 0), (30, .iconst 0, 1, 0, 0, .int (0), [], 0), (31, .iadd, 1, 0, 0, .null, [], 0), (32, .istore_n 1, 1, 1, 0, .null, [], 0), (33, .iinc 2 1, 3, 2, 0, .int (1), [], 0), (36, .goto (-32), 3, 0, 4, .null, [], 0), (39, .iload_n 1, 1, 1, 0, .null, [], 0), (40, .ireturn, 1, 0, 0, .null, [], 0)]
def AM_X4_doubtOfAll : AMinfo := ((4, yX4_doubtOfAll, cX4_doubtOfAll, 3, (some .int)), am_r0_X4_doubtOfAll, (2, 42, false, false), (590, 588, 589, 1, 34, 1))
def am_r0_X4_reasonAgainst : List AMrow := [(0, .iload_n 1, 1, 1, 0, .null, [], 0), (1, .iconst 3, 1, 0, 0, .int (3), [], 0), (2, .if_icmp .ne 5, 3, 0, 7, .null, [], 0), (5, .iconst 0, 1, 0, 0, .int (0), [], 0), (6, .ireturn, 1, 0, 0, .null, [], 0), (7, .iload_n 1, 1, 1, 0, .null, [], 0), (8, .iconst 4, 1, 0, 0, .int (4), [], 0), (9, .if_icmp .ne 18, 3, 0, 27, .null, [], 0), (12, .aload_n 0, 1, 0, 0, .null, [], 0), (13, .getfield 57, 3, 4, 13, .null, [], 102), (16, .bipush 99, 2, 0, 0, .int (99), [], 0), (18, .if_icmp .lt 7, 3, 0, 25, .null, [], 0), (21, .iconst 5, 1, 0, 0, .int (5), [], 0), (22, .goto 4, 3, 0, 26, .null, [], 0), (25, .iconst 0, 1, 0, 0, .int (0), [], 0), (26, .ireturn, 1, 0, 0, .null, [], 0), (27, .aload_n 0, 1, 0, 0, .null, [], 0), (28, .iload_n 2, 1, 2, 0, .null, [], 0), (29, .invokevirtual 103, 3, 29, 2, .int 0, [], 384), (32, .ifCond .ne 5, 3, 0, 37, .null, [], 0), (35, .iconst 1, 1, 0, 0, .int (1), [], 0), (36, .ireturn, 1, 0, 0, .null, [], 0), (37, .iload_n 1, 1, 1, 0, .null, [], 0), (38, .iconst 1, 1, 0, 0, .int (1), [], 0), (39, .if_icmp .ne 17, 3, 0, 56, .null, [], 0), (42, .aload_n 0, 1, 0, 0, .null, [], 0), (43, .iload_n 3, 1, 3, 0, .null, [], 0), (44, .invokevirtual 93, 3, 31, 2, .int 0, [], 385), (47, .ifCond .eq 7, 3, 0, 54, .null, [], 0), (50, .iconst 0, 1, 0, 0, .int (0), [], 0), (51, .goto 4, 3, 0, 55, .null, [], 0), (54, .iconst 2, 1, 0, 0, .int (2), [], 0), (55, .ireturn, 1, 0, 0, .null, [], 0), (56, .iload_n 1, 1, 1, 0, .null, [], 0), (57, .iconst 2, 1, 0, 0, .int (2), [], 0), (58, .if_icmp .ne 21, 3, 0, 79, .null, [], 0), (61, .aload_n 0, 1, 0, 0, .null, [], 0), (62, .getfield 27, 3, 4, 3, .null, [], 82), (65, .iload_n 2, 1, 2, 0, .null, [], 0), (66, .invokevirtual 79, 3, 11, 2, .int 0, [], 292), (69, .iload_n 3, 1, 3, 0, .null, [], 0), (70, .if_icmp .ne 7, 3, 0, 77, .null, [], 0), (73, .iconst 3, 1, 0, 0, .int (3), [], 0), (74, .goto 4, 3, 0, 78, .null, [], 0), (77, .iconst 0, 1, 0, 0, .int (0), [], 0), (78, .ireturn, 1, 0, 0, .null, [], 0), (79, .aload_n 0, 1, 0, 0, .null, [], 0), (80, .getfield 30, 3, 4, 4, .null, [], 85), (83, .iload_n 2, 1, 2, 0, .null, [], 0), (84, .invokevirtual 79, 3, 11, 2, .int 0, [], 292), (87, .bipush 9, 2, 0, 0, .int (9), [], 0), (89, .if_icmp .lt 7, 3, 0, 96, .null, [], 0), (92, .iconst 4, 1, 0, 0, .int (4), [], 0), (93, .goto 4, 3, 0, 97, .null, [], 0), (96, .iconst 0, 1, 0, 0, .int (0), [], 0), (97, .ireturn, 1, 0, 0, .null, [], 0)]
def AM_X4_reasonAgainst : AMinfo := ((4, yX4_reasonAgainst, cX4_reasonAgainst, 4, (some .int)), am_r0_X4_reasonAgainst, (2, 42, false, false), (383, 381, 382, 1, 34, 4))
def am_r0_X4_enact : List AMrow := [(0, .iload_n 1, 1, 1, 0, .null, [], 0), (1, .tableswitch 72 0 3 #[31, 39, 46, 66], 31, 0, 73, .null, [(0, 32), (1, 40), (2, 47), (3, 67)], 0), (32, .aload_n 0, 1, 0, 0, .null, [], 0), (33, .iload_n 2, 1, 2, 0, .null, [], 0), (34, .iload_n 3, 1, 3, 0, .null, [], 0), (35, .invokevirtual 106, 3, 44, 3, .int 0, [], 393), (38, .iconst 0, 1, 0, 0, .int (0), [], 0), (39, .ireturn, 1, 0, 0, .null, [], 0), (40, .aload_n 0, 1, 0, 0, .null, [], 0), (41, .iload_n 2, 1, 2, 0, .null, [], 0), (42, .iload_n 3, 1, 3, 0, .null, [], 0), (43, .invokevirtual 109, 3, 45, 3, .int 0, [], 401), (46, .ireturn, 1, 0, 0, .null, [], 0), (47, .aload_n 0, 1, 0, 0, .null, [], 0), (48, .getfield 27, 3, 4, 3, .null, [], 82), (51, .iload_n 2, 1, 2, 0, .null, [], 0), (52, .iload_n 3, 1, 3, 0, .null, [], 0), (53, .invokevirtual 67, 3, 12, 3, .int 0, [], 71), (56, .aload_n 0, 1, 0, 0, .null, [], 0), (57, .getfield 30, 3, 4, 4, .null, [], 85), (60, .iload_n 2, 1, 2, 0, .null, [], 0), (61, .iconst 5, 1, 0, 0, .int (5), [], 0), (62, .invokevirtual 67, 3, 12, 3, .int 0, [], 71), (65, .iconst 0, 1, 0, 0, .int (0), [], 0), (66, .ireturn, 1, 0, 0, .null, [], 0), (67, .aload_n 0, 1, 0, 0, .null, [], 0), (68, .invokevirtual 112, 3, 46, 1, .int 0, [], 413), (71, .iconst 0, 1, 0, 0, .int (0), [], 0), (72, .ireturn, 1, 0, 0, .null, [], 0), (73, .aload_n 0, 1, 0, 0, .null, [], 0), (74, .dup, 1, 0, 0, .null, [], 0), (75, .getfield 57, 3, 4, 13, .null, [], 102), (78, .iconst 1, 1, 0, 0, .int (1), [], 0), (79, .iadd, 1, 0, 0, .null, [], 0), (80, .putfield 57, 3, 4, 13, .null, [], 102), (83, .iconst 0, 1, 0, 0, .int (0), [], 0), (84, .ireturn, 1, 0, 0, .null, [], 0)]
def AM_X4_enact : AMinfo := ((4, yX4_enact, cX4_enact, 4, (some .boolean)), am_r0_X4_enact, (3, 75, false, false), (392, 390, 391, 1, 34, 4))
def am_r0_X4_build : List AMrow := [(0, .aload_n 0, 1, 0, 0, .null, [], 0), (1, .dup, 1, 0, 0, .null, [], 0), (2, .getfield 36, 3, 4, 6, .null, [], 89), (5, .iconst 1, 1, 0, 0, .int (1), [], 0), (6, .iload_n 2, 1, 2, 0, .null, [], 0), (7, .ishl, 1, 0, 0, .null, [], 0), (8, .ior, 1, 0, 0, .null, [], 0), (9, .putfield 36, 3, 4, 6, .null, [], 89), (12, .aload_n 0, 1, 0, 0, .null, [], 0), (13, .getfield 39, 3, 4, 7, .null, [], 91), (16, .iload_n 2, 1, 2, 0, .null, [], 0), (17, .aload_n 0, 1, 0, 0, .null, [], 0), (18, .iload_n 1, 1, 1, 0, .null, [], 0), (19, .invokevirtual 115, 3, 35, 2, .int 0, [], 397), (22, .invokevirtual 67, 3, 12, 3, .int 0, [], 71), (25, .aload_n 0, 1, 0, 0, .null, [], 0), (26, .getfield 42, 3, 4, 8, .null, [], 93), (29, .iload_n 2, 1, 2, 0, .null, [], 0), (30, .aload_n 0, 1, 0, 0, .null, [], 0), (31, .getfield 27, 3, 4, 3, .null, [], 82), (34, .iload_n 1, 1, 1, 0, .null, [], 0), (35, .invokevirtual 79, 3, 11, 2, .int 0, [], 292), (38, .invokevirtual 67, 3, 12, 3, .int 0, [], 71), (41, .return_, 1, 0, 0, .null, [], 0)]
def AM_X4_build : AMinfo := ((4, yX4_build, cX4_build, 3, none), am_r0_X4_build, (2, 42, false, false), (396, 395, 2, 1, 34, 3))
def am_r0_X4_tryWall : List AMrow := [(0, .aload_n 0, 1, 0, 0, .null, [], 0), (1, .aload_n 0, 1, 0, 0, .null, [], 0), (2, .getfield 39, 3, 4, 7, .null, [], 91), (5, .iload_n 2, 1, 2, 0, .null, [], 0), (6, .invokevirtual 79, 3, 11, 2, .int 0, [], 292), (9, .iload_n 1, 1, 1, 0, .null, [], 0), (10, .invokevirtual 97, 3, 36, 3, .int 0, [], 405), (13, .ifCond .eq 27, 3, 0, 40, .null, [], 0), (16, .aload_n 0, 1, 0, 0, .null, [], 0), (17, .getfield 30, 3, 4, 4, .null, [], 85), (20, .iload_n 1, 1, 1, 0, .null, [], 0), (21, .aload_n 0, 1, 0, 0, .null, [], 0), (22, .getfield 30, 3, 4, 4, .null, [], 85), (25, .iload_n 1, 1, 1, 0, .null, [], 0), (26, .invokevirtual 79, 3, 11, 2, .int 0, [], 292), (29, .iconst 1, 1, 0, 0, .int (1), [], 0), (30, .isub, 1, 0, 0, .null, [], 0), (31, .iconst 0, 1, 0, 0, .int (0), [], 0), (32, .invokestatic 118, 3, 996, 0, .null, [], 412), (35, .invokevirtual 67, 3, 12, 3, .int 0, [], 71), (38, .iconst 0, 1, 0, 0, .int (0), [], 0), (39, .ireturn, 1, 0, 0, .null, [], 0), (40, .aload_n 0, 1, 0, 0, .null, [], 0), (41, .getfield 30, 3, 4, 4, .null, [], 85), (44, .iload_n 1, 1, 1, 0, .null, [], 0), (45, .invokevirtual 79, 3, 11, 2, .int 0, [], 292), (48, .iconst 3, 1, 0, 0, .int (3), [], 0), (49, .iadd, 1, 0, 0, .null, [], 0), (50, .istore_n 3, 1, 3, 0, .null, [], 0), (51, .iload_n 3, 1, 3, 0, .null, [], 0), (52, .bipush 9, 2, 0, 0, .int (9), [], 0), (54, .if_icmp .le 21, 3, 0, 75, .null, [], 0), (57, .aload_n 0, 1, 0, 0, .null, [], 0), (58, .getfield 27, 3, 4, 3, .null, [], 82), (61, .iload_n 1, 1, 1, 0, .null, [], 0), (62, .aload_n 0, 1, 0, 0, .null, [], 0), (63, .getfield 42, 3, 4, 8, .null, [], 93), (66, .iload_n 2, 1, 2, 0, .null, [], 0), (67, .invokevirtual 79, 3, 11, 2, .int 0, [], 292), (70, .invokevirtual 67, 3, 12, 3, .int 0, [], 71), (73, .iconst 0, 1, 0, 0, .int (0), [], 0), (74, .istore_n 3, 1, 3, 0, .null, [], 0), (75, .aload_n 0, 1, 0, 0, .null, [], 0), (76, .getfield 30, 3, 4, 4, .null, [], 85), (79, .iload_n 1, 1, 1, 0, .null, [], 0), (80, .iload_n 3, 1, 3, 0, .null, [], 0), (81, .invokevirtual 67, 3, 12, 3, .int 0, [], 71), (84, .iconst 1, 1, 0, 0, .int (1), [], 0), (85, .ireturn, 1, 0, 0, .null, [], 0)]
def AM_X4_tryWall : AMinfo := ((4, yX4_tryWall, cX4_tryWall, 4, (some .boolean)), am_r0_X4_tryWall, (2, 52, false, false), (404, 403, 3, 1, 34, 3))
def am_r0_X4_quake : List AMrow := [(0, .iconst 0, 1, 0, 0, .int (0), [], 0), (1, .istore_n 1, 1, 1, 0, .null, [], 0), (2, .iload_n 1, 1, 1, 0, .null, [], 0), (3, .bipush 8, 2, 0, 0, .int (8), [], 0), (5, .if_icmp .ge 41, 3, 0, 46, .null, [], 0), (8, .aload_n 0, 1, 0, 0, .null, [], 0), (9, .getfield 39, 3, 4, 7, .null, [], 91), (12, .iload_n 1, 1, 1, 0, .null, [], 0), (13, .invokevirtual 79, 3, 11, 2, .int 0, [], 292), (16, .invokestatic 88, 3, 997, 0, .null, [], 409), (19, .aload_n 0, 1, 0, 0, .null, [], 0), (20, .getfield 20, 3, 4, 1, .null, [], 77), (23, .if_icmp .le 17, 3, 0, 40, .null, [], 0), (26, .aload_n 0, 1, 0, 0, .null, [], 0), (27, .dup, 1, 0, 0, .null, [], 0), (28, .getfield 36, 3, 4, 6, .null, [], 89), (31, .iconst 1, 1, 0, 0, .int (1), [], 0), (32, .iload_n 1, 1, 1, 0, .null, [], 0), (33, .ishl, 1, 0, 0, .null, [], 0), (34, .iconst (-1), 1, 0, 0, .int (-1), [], 0), (35, .ixor, 1, 0, 0, .null, [], 0), (36, .iand, 1, 0, 0, .null, [], 0), (37, .putfield 36, 3, 4, 6, .null, [], 89), (40, .iinc 1 1, 3, 1, 0, .int (1), [], 0), (43, .goto (-41), 3, 0, 2, .null, [], 0), (46, .return_, 1, 0, 0, .null, [], 0)]
def AM_X4_quake : AMinfo := ((4, yX4_quake, cX4_quake, 2, none), am_r0_X4_quake, (1, 30, false, false), (416, 415, 4, 1, 34, 1))
def am_r0_X5_init : List AMrow := [(0, .aload_n 0, 1, 0, 0, .null, [], 0), (1, .invokespecial 1, 3, 999, 0, .null, [], 47), (4, .aload_n 0, 1, 0, 0, .null, [], 0), (5, .new 7, 3, 4, 0, .null, [], 50), (8, .dup, 1, 0, 0, .null, [], 0), (9, .invokespecial 9, 3, 27, 1, .int 0, [], 52), (12, .putfield 10, 3, 5, 0, .null, [], 222), (15, .aload_n 0, 1, 0, 0, .null, [], 0), (16, .new 16, 3, 0, 0, .null, [], 141), (19, .dup, 1, 0, 0, .null, [], 0), (20, .invokespecial 18, 3, 0, 1, .int 1, [], 143), (23, .putfield 19, 3, 5, 1, .null, [], 223), (26, .aload_n 0, 1, 0, 0, .null, [], 0), (27, .new 23, 3, 3, 0, .null, [], 158), (30, .dup, 1, 0, 0, .null, [], 0), (31, .invokespecial 25, 3, 21, 1, .int 1, [], 160), (34, .putfield 26, 3, 5, 2, .null, [], 224), (37, .aload_n 0, 1, 0, 0, .null, [], 0), (38, .new 30, 3, 2, 0, .null, [], 195), (41, .dup, 1, 0, 0, .null, [], 0), (42, .invokespecial 32, 3, 14, 1, .int 1, [], 197), (45, .putfield 33, 3, 5, 3, .null, [], 225), (48, .aload_n 0, 1, 0, 0, .null, [], 0), (49, .new 7, 3, 4, 0, .null, [], 50), (52, .dup, 1, 0, 0, .null, [], 0), (53, .invokespecial 9, 3, 27, 1, .int 0, [], 52), (56, .putfield 37, 3, 5, 4, .null, [], 226), (59, .aload_n 0, 1, 0, 0, .null, [], 0), (60, .new 7, 3, 4, 0, .null, [], 50), (63, .dup, 1, 0, 0, .null, [], 0), (64, .invokespecial 9, 3, 27, 1, .int 0, [], 52), (67, .putfield 40, 3, 5, 5, .null, [], 227), (70, .aload_n 0, 1, 0, 0, .null, [], 0), (71, .iconst 0, 1, 0, 0, .int (0), [], 0), (72, .putfield 43, 3, 5, 6, .null, [], 228), (75, .return_, 1, 0, 0, .null, [], 0)]
def AM_X5_init : AMinfo := ((5, yX5_init, cX5_init, 1, none), am_r0_X5_init, (4, 91, true, false), (46, 45, 0, 2, 33, 1))
def am_r0_X5_creed : List AMrow := [(0, .iload_n 1, 1, 1, 0, .null, [], 0), (1, .iconst 0, 1, 0, 0, .int (0), [], 0), (2, .iconst 2, 1, 0, 0, .int (2), [], 0), (3, .invokestatic 47, 3, 79, 3, .int 0, [], 248), (6, .ifCond .ne 5, 3, 0, 11, .null, [], 0), (9, .iconst (-1), 1, 0, 0, .int (-1), [], 0), (10, .ireturn, 1, 0, 0, .null, [], 0), (11, .iload_n 2, 1, 2, 0, .null, [], 0), (12, .invokestatic 51, 3, 80, 1, .int 0, [], 251), (15, .ifCond .ne 6, 3, 0, 21, .null, [], 0), (18, .bipush (-2), 2, 0, 0, .int (-2), [], 0), (20, .ireturn, 1, 0, 0, .null, [], 0), (21, .aload_n 0, 1, 0, 0, .null, [], 0), (22, .getfield 10, 3, 5, 0, .null, [], 222), (25, .getfield 55, 3, 4, 0, .null, [], 76), (28, .iload_n 1, 1, 1, 0, .null, [], 0), (29, .invokevirtual 59, 3, 11, 2, .int 0, [], 254), (32, .istore_n 3, 1, 3, 0, .null, [], 0), (33, .aload_n 0, 1, 0, 0, .null, [], 0), (34, .getfield 10, 3, 5, 0, .null, [], 222), (37, .getfield 55, 3, 4, 0, .null, [], 76), (40, .iload_n 1, 1, 1, 0, .null, [], 0), (41, .iload_n 2, 1, 2, 0, .null, [], 0), (42, .invokevirtual 65, 3, 12, 3, .int 0, [], 258), (45, .iload_n 3, 1, 3, 0, .null, [], 0), (46, .bipush 10, 2, 0, 0, .int (10), [], 0), (48, .iadd, 1, 0, 0, .null, [], 0), (49, .ireturn, 1, 0, 0, .null, [], 0)]
def AM_X5_creed : AMinfo := ((5, yX5_creed, cX5_creed, 4, (some .int)), am_r0_X5_creed, (2, 42, false, false), (247, 245, 246, 1, 33, 3))
def am_r0_X5_bear : List AMrow := [(0, .iload_n 1, 1, 1, 0, .null, [], 0), (1, .iconst 0, 1, 0, 0, .int (0), [], 0), (2, .bipush 18, 2, 0, 0, .int (18), [], 0), (4, .invokestatic 47, 3, 79, 3, .int 0, [], 248), (7, .ifCond .ne 6, 3, 0, 13, .null, [], 0), (10, .bipush (-2), 2, 0, 0, .int (-2), [], 0), (12, .ireturn, 1, 0, 0, .null, [], 0), (13, .aload_n 0, 1, 0, 0, .null, [], 0), (14, .getfield 10, 3, 5, 0, .null, [], 222), (17, .getfield 69, 3, 4, 1, .null, [], 78), (20, .istore_n 2, 1, 2, 0, .null, [], 0), (21, .aload_n 0, 1, 0, 0, .null, [], 0), (22, .getfield 10, 3, 5, 0, .null, [], 222), (25, .iload_n 1, 1, 1, 0, .null, [], 0), (26, .putfield 69, 3, 4, 1, .null, [], 78), (29, .iload_n 2, 1, 2, 0, .null, [], 0), (30, .ireturn, 1, 0, 0, .null, [], 0)]
def AM_X5_bear : AMinfo := ((5, yX5_bear, cX5_bear, 3, (some .int)), am_r0_X5_bear, (1, 22, false, false), (262, 260, 261, 1, 33, 2))
def am_r0_X5_one : List AMrow := [(0, .iload_n 1, 1, 1, 0, .null, [], 0), (1, .iconst 0, 1, 0, 0, .int (0), [], 0), (2, .bipush 6, 2, 0, 0, .int (6), [], 0), (4, .invokestatic 47, 3, 79, 3, .int 0, [], 248), (7, .ifCond .ne 5, 3, 0, 12, .null, [], 0), (10, .iconst (-1), 1, 0, 0, .int (-1), [], 0), (11, .ireturn, 1, 0, 0, .null, [], 0), (12, .iload_n 2, 1, 2, 0, .null, [], 0), (13, .iconst 0, 1, 0, 0, .int (0), [], 0), (14, .iconst 2, 1, 0, 0, .int (2), [], 0), (15, .invokestatic 47, 3, 79, 3, .int 0, [], 248), (18, .ifCond .eq 13, 3, 0, 31, .null, [], 0), (21, .iload_n 3, 1, 3, 0, .null, [], 0), (22, .iconst 0, 1, 0, 0, .int (0), [], 0), (23, .bipush 9, 2, 0, 0, .int (9), [], 0), (25, .invokestatic 47, 3, 79, 3, .int 0, [], 248), (28, .ifCond .ne 6, 3, 0, 34, .null, [], 0), (31, .bipush (-2), 2, 0, 0, .int (-2), [], 0), (33, .ireturn, 1, 0, 0, .null, [], 0), (34, .aload_n 0, 1, 0, 0, .null, [], 0), (35, .getfield 10, 3, 5, 0, .null, [], 222), (38, .dup, 1, 0, 0, .null, [], 0), (39, .getfield 72, 3, 4, 2, .null, [], 81), (42, .iconst 1, 1, 0, 0, .int (1), [], 0), (43, .iload_n 1, 1, 1, 0, .null, [], 0), (44, .ishl, 1, 0, 0, .null, [], 0), (45, .ior, 1, 0, 0, .null, [], 0), (46, .putfield 72, 3, 4, 2, .null, [], 81), (49, .aload_n 0, 1, 0, 0, .null, [], 0), (50, .getfield 10, 3, 5, 0, .null, [], 222), (53, .getfield 75, 3, 4, 3, .null, [], 84), (56, .iload_n 1, 1, 1, 0, .null, [], 0), (57, .iload_n 2, 1, 2, 0, .null, [], 0), (58, .invokevirtual 65, 3, 12, 3, .int 0, [], 258), (61, .aload_n 0, 1, 0, 0, .null, [], 0), (62, .getfield 10, 3, 5, 0, .null, [], 222), (65, .getfield 78, 3, 4, 4, .null, [], 86), (68, .iload_n 1, 1, 1, 0, .null, [], 0), (69, .iload_n 3, 1, 3, 0, .null, [], 0), (70, .invokevirtual 65, 3, 12, 3, .int 0, [], 258), (73, .aload_n 0, 1, 0, 0, .null, [], 0), (74, .getfield 10, 3, 5, 0, .null, [], 222), (77, .getfield 72, 3, 4, 2, .null, [], 81), (80, .invokestatic 81, 3, 152, 1, .int 0, [], 267), (83, .ireturn, 1, 0, 0, .null, [], 0)]
def AM_X5_one : AMinfo := ((5, yX5_one, cX5_one, 4, (some .int)), am_r0_X5_one, (1, 22, false, false), (266, 264, 265, 1, 33, 4))
def am_r0_X5_leave : List AMrow := [(0, .aload_n 0, 1, 0, 0, .null, [], 0), (1, .getfield 10, 3, 5, 0, .null, [], 222), (4, .iload_n 1, 1, 1, 0, .null, [], 0), (5, .invokevirtual 86, 3, 29, 2, .int 0, [], 277), (8, .ifCond .ne 5, 3, 0, 13, .null, [], 0), (11, .iconst (-1), 1, 0, 0, .int (-1), [], 0), (12, .ireturn, 1, 0, 0, .null, [], 0), (13, .aload_n 0, 1, 0, 0, .null, [], 0), (14, .getfield 10, 3, 5, 0, .null, [], 222), (17, .dup, 1, 0, 0, .null, [], 0), (18, .getfield 72, 3, 4, 2, .null, [], 81), (21, .iconst 1, 1, 0, 0, .int (1), [], 0), (22, .iload_n 1, 1, 1, 0, .null, [], 0), (23, .ishl, 1, 0, 0, .null, [], 0), (24, .iconst (-1), 1, 0, 0, .int (-1), [], 0), (25, .ixor, 1, 0, 0, .null, [], 0), (26, .iand, 1, 0, 0, .null, [], 0), (27, .putfield 72, 3, 4, 2, .null, [], 81), (30, .aload_n 0, 1, 0, 0, .null, [], 0), (31, .getfield 10, 3, 5, 0, .null, [], 222), (34, .getfield 72, 3, 4, 2, .null, [], 81), (37, .invokestatic 81, 3, 152, 1, .int 0, [], 267), (40, .ireturn, 1, 0, 0, .null, [], 0)]
def AM_X5_leave : AMinfo := ((5, yX5_leave, cX5_leave, 2, (some .int)), am_r0_X5_leave, (2, 42, false, false), (276, 274, 275, 1, 33, 2))
def am_r0_X5_kin : List AMrow := [(0, .iload_n 1, 1, 1, 0, .null, [], 0), (1, .iconst 0, 1, 0, 0, .int (0), [], 0), (2, .bipush 6, 2, 0, 0, .int (6), [], 0), (4, .invokestatic 47, 3, 79, 3, .int 0, [], 248), (7, .ifCond .eq 18, 3, 0, 25, .null, [], 0), (10, .iload_n 2, 1, 2, 0, .null, [], 0), (11, .iconst 0, 1, 0, 0, .int (0), [], 0), (12, .bipush 6, 2, 0, 0, .int (6), [], 0), (14, .invokestatic 47, 3, 79, 3, .int 0, [], 248), (17, .ifCond .eq 8, 3, 0, 25, .null, [], 0), (20, .iload_n 1, 1, 1, 0, .null, [], 0), (21, .iload_n 2, 1, 2, 0, .null, [], 0), (22, .if_icmp .ne 5, 3, 0, 27, .null, [], 0), (25, .iconst (-1), 1, 0, 0, .int (-1), [], 0), (26, .ireturn, 1, 0, 0, .null, [], 0), (27, .aload_n 0, 1, 0, 0, .null, [], 0), (28, .getfield 10, 3, 5, 0, .null, [], 222), (31, .iload_n 1, 1, 1, 0, .null, [], 0), (32, .iload_n 2, 1, 2, 0, .null, [], 0), (33, .iload_n 3, 1, 3, 0, .null, [], 0), (34, .invokevirtual 89, 3, 33, 4, .int 0, [], 288), (37, .aload_n 0, 1, 0, 0, .null, [], 0), (38, .getfield 10, 3, 5, 0, .null, [], 222), (41, .iload_n 2, 1, 2, 0, .null, [], 0), (42, .iload_n 1, 1, 1, 0, .null, [], 0), (43, .iload_n 3, 1, 3, 0, .null, [], 0), (44, .invokevirtual 89, 3, 33, 4, .int 0, [], 288), (47, .aload_n 0, 1, 0, 0, .null, [], 0), (48, .getfield 10, 3, 5, 0, .null, [], 222), (51, .invokevirtual 93, 3, 34, 1, .int 0, [], 293), (54, .ireturn, 1, 0, 0, .null, [], 0)]
def AM_X5_kin : AMinfo := ((5, yX5_kin, cX5_kin, 4, (some .int)), am_r0_X5_kin, (2, 46, false, false), (287, 285, 286, 1, 33, 4))
def am_r0_X5_stair : List AMrow := [(0, .iload_n 1, 1, 1, 0, .null, [], 0), (1, .iconst 0, 1, 0, 0, .int (0), [], 0), (2, .bipush 11, 2, 0, 0, .int (11), [], 0), (4, .invokestatic 47, 3, 79, 3, .int 0, [], 248), (7, .ifCond .ne 5, 3, 0, 12, .null, [], 0), (10, .iconst (-1), 1, 0, 0, .int (-1), [], 0), (11, .ireturn, 1, 0, 0, .null, [], 0), (12, .iload_n 2, 1, 2, 0, .null, [], 0), (13, .invokestatic 97, 3, 81, 1, .int 0, [], 302), (16, .ifCond .eq 23, 3, 0, 39, .null, [], 0), (19, .iload_n 3, 1, 3, 0, .null, [], 0), (20, .invokestatic 97, 3, 81, 1, .int 0, [], 302), (23, .ifCond .eq 16, 3, 0, 39, .null, [], 0), (26, .iload_n 2, 1, 2, 0, .null, [], 0), (27, .iload_n 3, 1, 3, 0, .null, [], 0), (28, .if_icmp .eq 11, 3, 0, 39, .null, [], 0), (31, .iload 4, 2, 4, 0, .null, [], 0), (33, .invokestatic 51, 3, 80, 1, .int 0, [], 251), (36, .ifCond .ne 6, 3, 0, 42, .null, [], 0), (39, .bipush (-2), 2, 0, 0, .int (-2), [], 0), (41, .ireturn, 1, 0, 0, .null, [], 0), (42, .aload_n 0, 1, 0, 0, .null, [], 0), (43, .getfield 10, 3, 5, 0, .null, [], 222), (46, .dup, 1, 0, 0, .null, [], 0), (47, .getfield 100, 3, 4, 9, .null, [], 95), (50, .iconst 1, 1, 0, 0, .int (1), [], 0), (51, .iload_n 1, 1, 1, 0, .null, [], 0), (52, .ishl, 1, 0, 0, .null, [], 0), (53, .ior, 1, 0, 0, .null, [], 0), (54, .putfield 100, 3, 4, 9, .null, [], 95), (57, .aload_n 0, 1, 0, 0, .null, [], 0), (58, .getfield 10, 3, 5, 0, .null, [], 222), (61, .getfield 103, 3, 4, 10, .null, [], 97), (64, .iload_n 1, 1, 1, 0, .null, [], 0), (65, .iload_n 2, 1, 2, 0, .null, [], 0), (66, .invokevirtual 65, 3, 12, 3, .int 0, [], 258), (69, .aload_n 0, 1, 0, 0, .null, [], 0), (70, .getfield 10, 3, 5, 0, .null, [], 222), (73, .getfield 106, 3, 4, 11, .null, [], 99), (76, .iload_n 1, 1, 1, 0, .null, [], 0), (77, .iload_n 3, 1, 3, 0, .null, [], 0), (78, .invokevirtual 65, 3, 12, 3, .int 0, [], 258), (81, .aload_n 0, 1, 0, 0, .null, [], 0), (82, .getfield 10, 3, 5, 0, .null, [], 222), (85, .getfield 109, 3, 4, 12, .null, [], 101), (88, .iload_n 1, 1, 1, 0, .null, [], 0), (89, .iload 4, 2, 4, 0, .null, [], 0), (91, .invokevirtual 65, 3, 12, 3, .int 0, [], 258), (94, .aload_n 0, 1, 0, 0, .null, [], 0), (95, .getfield 10, 3, 5, 0, .null, [], 222), (98, .getfield 100, 3, 4, 9, .null, [], 95), (101, .invokestatic 81, 3, 152, 1, .int 0, [], 267), (104, .ireturn, 1, 0, 0, .null, [], 0)]
def AM_X5_stair : AMinfo := ((5, yX5_stair, cX5_stair, 5, (some .int)), am_r0_X5_stair, (2, 42, false, false), (301, 299, 300, 1, 33, 5))
def am_r0_X5_say : List AMrow := [(0, .iload_n 1, 1, 1, 0, .null, [], 0), (1, .bipush 33, 2, 0, 0, .int (33), [], 0), (3, .bipush 126, 2, 0, 0, .int (126), [], 0), (5, .invokestatic 47, 3, 79, 3, .int 0, [], 248), (8, .ifCond .ne 6, 3, 0, 14, .null, [], 0), (11, .bipush (-2), 2, 0, 0, .int (-2), [], 0), (13, .ireturn, 1, 0, 0, .null, [], 0), (14, .aload_n 0, 1, 0, 0, .null, [], 0), (15, .getfield 19, 3, 5, 1, .null, [], 223), (18, .iload_n 1, 1, 1, 0, .null, [], 0), (19, .invokevirtual 112, 3, 1, 2, .int 0, [], 309), (22, .ifCond .eq 13, 3, 0, 35, .null, [], 0), (25, .aload_n 0, 1, 0, 0, .null, [], 0), (26, .getfield 19, 3, 5, 1, .null, [], 223), (29, .getfield 115, 3, 0, 1, .null, [], 152), (32, .goto 5, 3, 0, 37, .null, [], 0), (35, .bipush (-4), 2, 0, 0, .int (-4), [], 0), (37, .ireturn, 1, 0, 0, .null, [], 0)]
def AM_X5_say : AMinfo := ((5, yX5_say, cX5_say, 2, (some .int)), am_r0_X5_say, (2, 43, false, false), (308, 306, 307, 1, 33, 2))
def am_r0_X5_wipe : List AMrow := [(0, .aload_n 0, 1, 0, 0, .null, [], 0), (1, .getfield 19, 3, 5, 1, .null, [], 223), (4, .getfield 115, 3, 0, 1, .null, [], 152), (7, .istore_n 1, 1, 1, 0, .null, [], 0), (8, .aload_n 0, 1, 0, 0, .null, [], 0), (9, .getfield 19, 3, 5, 1, .null, [], 223), (12, .iconst 0, 1, 0, 0, .int (0), [], 0), (13, .putfield 115, 3, 0, 1, .null, [], 152), (16, .iload_n 1, 1, 1, 0, .null, [], 0), (17, .ireturn, 1, 0, 0, .null, [], 0)]
def AM_X5_wipe : AMinfo := ((5, yX5_wipe, cX5_wipe, 2, (some .int)), am_r0_X5_wipe, (0, 0, false, false), (317, 315, 316, 1, 33, 1))
def am_r0_X5_fault : List AMrow := [(0, .aload_n 0, 1, 0, 0, .null, [], 0), (1, .getfield 19, 3, 5, 1, .null, [], 223), (4, .invokevirtual 118, 3, 2, 1, .int 0, [], 322), (7, .ireturn, 1, 0, 0, .null, [], 0)]
def AM_X5_fault : AMinfo := ((5, yX5_fault, cX5_fault, 1, (some .int)), am_r0_X5_fault, (4, 85, false, false), (321, 319, 320, 1, 33, 1))
def am_r0_X5_judge : List AMrow := [(0, .iload_n 1, 1, 1, 0, .null, [], 0), (1, .iconst 0, 1, 0, 0, .int (0), [], 0), (2, .iconst 1, 1, 0, 0, .int (1), [], 0), (3, .invokestatic 47, 3, 79, 3, .int 0, [], 248), (6, .ifCond .ne 6, 3, 0, 12, .null, [], 0), (9, .bipush (-2), 2, 0, 0, .int (-2), [], 0), (11, .ireturn, 1, 0, 0, .null, [], 0), (12, .aload_n 0, 1, 0, 0, .null, [], 0), (13, .getfield 19, 3, 5, 1, .null, [], 223), (16, .invokevirtual 118, 3, 2, 1, .int 0, [], 322), (19, .bipush (-6), 2, 0, 0, .int (-6), [], 0), (21, .if_icmp .eq 6, 3, 0, 27, .null, [], 0), (24, .bipush (-5), 2, 0, 0, .int (-5), [], 0), (26, .ireturn, 1, 0, 0, .null, [], 0), (27, .aload_n 0, 1, 0, 0, .null, [], 0), (28, .getfield 26, 3, 5, 2, .null, [], 224), (31, .aload_n 0, 1, 0, 0, .null, [], 0), (32, .getfield 19, 3, 5, 1, .null, [], 223), (35, .aload_n 0, 1, 0, 0, .null, [], 0), (36, .getfield 10, 3, 5, 0, .null, [], 222), (39, .invokevirtual 121, 3, 23, 3, .int 0, [], 341), (42, .pop, 1, 0, 0, .null, [], 0), (43, .iload_n 1, 1, 1, 0, .null, [], 0), (44, .ifCond .ne 13, 3, 0, 57, .null, [], 0), (47, .aload_n 0, 1, 0, 0, .null, [], 0), (48, .getfield 26, 3, 5, 2, .null, [], 224), (51, .getfield 125, 3, 3, 2, .null, [], 171), (54, .goto 10, 3, 0, 64, .null, [], 0), (57, .aload_n 0, 1, 0, 0, .null, [], 0), (58, .getfield 26, 3, 5, 2, .null, [], 224), (61, .getfield 128, 3, 3, 3, .null, [], 173), (64, .ireturn, 1, 0, 0, .null, [], 0)]
def AM_X5_judge : AMinfo := ((5, yX5_judge, cX5_judge, 2, (some .int)), am_r0_X5_judge, (6, 146, false, false), (340, 338, 339, 1, 33, 2))
def am_r0_X5_done : List AMrow := [(0, .aload_n 0, 1, 0, 0, .null, [], 0), (1, .getfield 26, 3, 5, 2, .null, [], 224), (4, .aload_n 0, 1, 0, 0, .null, [], 0), (5, .getfield 19, 3, 5, 1, .null, [], 223), (8, .aload_n 0, 1, 0, 0, .null, [], 0), (9, .getfield 10, 3, 5, 0, .null, [], 222), (12, .invokevirtual 121, 3, 23, 3, .int 0, [], 341), (15, .ifCond .ne 6, 3, 0, 21, .null, [], 0), (18, .bipush (-5), 2, 0, 0, .int (-5), [], 0), (20, .ireturn, 1, 0, 0, .null, [], 0), (21, .aload_n 0, 1, 0, 0, .null, [], 0), (22, .getfield 10, 3, 5, 0, .null, [], 222), (25, .aload_n 0, 1, 0, 0, .null, [], 0), (26, .getfield 26, 3, 5, 2, .null, [], 224), (29, .getfield 131, 3, 3, 0, .null, [], 167), (32, .invokevirtual 134, 3, 28, 2, .int 0, [], 421), (35, .aload_n 0, 1, 0, 0, .null, [], 0), (36, .getfield 19, 3, 5, 1, .null, [], 223), (39, .iconst 0, 1, 0, 0, .int (0), [], 0), (40, .putfield 115, 3, 0, 1, .null, [], 152), (43, .aload_n 0, 1, 0, 0, .null, [], 0), (44, .getfield 26, 3, 5, 2, .null, [], 224), (47, .getfield 138, 3, 3, 1, .null, [], 169), (50, .ireturn, 1, 0, 0, .null, [], 0)]
def AM_X5_done : AMinfo := ((5, yX5_done, cX5_done, 1, (some .int)), am_r0_X5_done, (6, 146, false, false), (420, 418, 419, 1, 33, 1))
def am_r0_X5_behind : List AMrow := [(0, .aload_n 0, 1, 0, 0, .null, [], 0), (1, .getfield 10, 3, 5, 0, .null, [], 222), (4, .iload_n 1, 1, 1, 0, .null, [], 0), (5, .invokevirtual 86, 3, 29, 2, .int 0, [], 277), (8, .ifCond .ne 5, 3, 0, 13, .null, [], 0), (11, .iconst (-1), 1, 0, 0, .int (-1), [], 0), (12, .ireturn, 1, 0, 0, .null, [], 0), (13, .iload_n 2, 1, 2, 0, .null, [], 0), (14, .iconst 0, 1, 0, 0, .int (0), [], 0), (15, .iconst 1, 1, 0, 0, .int (1), [], 0), (16, .invokestatic 47, 3, 79, 3, .int 0, [], 248), (19, .ifCond .ne 6, 3, 0, 25, .null, [], 0), (22, .bipush (-2), 2, 0, 0, .int (-2), [], 0), (24, .ireturn, 1, 0, 0, .null, [], 0), (25, .aload_n 0, 1, 0, 0, .null, [], 0), (26, .getfield 26, 3, 5, 2, .null, [], 224), (29, .aload_n 0, 1, 0, 0, .null, [], 0), (30, .getfield 19, 3, 5, 1, .null, [], 223), (33, .aload_n 0, 1, 0, 0, .null, [], 0), (34, .getfield 10, 3, 5, 0, .null, [], 222), (37, .invokevirtual 121, 3, 23, 3, .int 0, [], 341), (40, .ifCond .ne 6, 3, 0, 46, .null, [], 0), (43, .bipush (-5), 2, 0, 0, .int (-5), [], 0), (45, .ireturn, 1, 0, 0, .null, [], 0), (46, .iload_n 2, 1, 2, 0, .null, [], 0), (47, .ifCond .ne 20, 3, 0, 67, .null, [], 0), (50, .aload_n 0, 1, 0, 0, .null, [], 0), (51, .getfield 26, 3, 5, 2, .null, [], 224), (54, .getfield 131, 3, 3, 0, .null, [], 167), (57, .getfield 75, 3, 4, 3, .null, [], 84), (60, .iload_n 1, 1, 1, 0, .null, [], 0), (61, .invokevirtual 59, 3, 11, 2, .int 0, [], 254), (64, .goto 17, 3, 0, 81, .null, [], 0), (67, .aload_n 0, 1, 0, 0, .null, [], 0), (68, .getfield 26, 3, 5, 2, .null, [], 224), (71, .getfield 131, 3, 3, 0, .null, [], 167), (74, .getfield 78, 3, 4, 4, .null, [], 86), (77, .iload_n 1, 1, 1, 0, .null, [], 0), (78, .invokevirtual 59, 3, 11, 2, .int 0, [], 254), (81, .ireturn, 1, 0, 0, .null, [], 0)]
def AM_X5_behind : AMinfo := ((5, yX5_behind, cX5_behind, 3, (some .int)), am_r0_X5_behind, (6, 146, false, false), (425, 423, 424, 1, 33, 3))
def am_r0_X5_wall : List AMrow := [(0, .iload_n 1, 1, 1, 0, .null, [], 0), (1, .iconst 0, 1, 0, 0, .int (0), [], 0), (2, .bipush 7, 2, 0, 0, .int (7), [], 0), (4, .invokestatic 47, 3, 79, 3, .int 0, [], 248), (7, .ifCond .ne 5, 3, 0, 12, .null, [], 0), (10, .iconst (-1), 1, 0, 0, .int (-1), [], 0), (11, .ireturn, 1, 0, 0, .null, [], 0), (12, .iload_n 2, 1, 2, 0, .null, [], 0), (13, .iconst 0, 1, 0, 0, .int (0), [], 0), (14, .iconst 1, 1, 0, 0, .int (1), [], 0), (15, .invokestatic 47, 3, 79, 3, .int 0, [], 248), (18, .ifCond .ne 6, 3, 0, 24, .null, [], 0), (21, .bipush (-2), 2, 0, 0, .int (-2), [], 0), (23, .ireturn, 1, 0, 0, .null, [], 0), (24, .aload_n 0, 1, 0, 0, .null, [], 0), (25, .getfield 26, 3, 5, 2, .null, [], 224), (28, .aload_n 0, 1, 0, 0, .null, [], 0), (29, .getfield 19, 3, 5, 1, .null, [], 223), (32, .aload_n 0, 1, 0, 0, .null, [], 0), (33, .getfield 10, 3, 5, 0, .null, [], 222), (36, .invokevirtual 121, 3, 23, 3, .int 0, [], 341), (39, .ifCond .ne 6, 3, 0, 45, .null, [], 0), (42, .bipush (-5), 2, 0, 0, .int (-5), [], 0), (44, .ireturn, 1, 0, 0, .null, [], 0), (45, .aload_n 0, 1, 0, 0, .null, [], 0), (46, .getfield 26, 3, 5, 2, .null, [], 224), (49, .getfield 131, 3, 3, 0, .null, [], 167), (52, .iload_n 1, 1, 1, 0, .null, [], 0), (53, .invokevirtual 141, 3, 31, 2, .int 0, [], 430), (56, .ifCond .eq 18, 3, 0, 74, .null, [], 0), (59, .aload_n 0, 1, 0, 0, .null, [], 0), (60, .getfield 26, 3, 5, 2, .null, [], 224), (63, .getfield 131, 3, 3, 0, .null, [], 167), (66, .iload_n 1, 1, 1, 0, .null, [], 0), (67, .iload_n 2, 1, 2, 0, .null, [], 0), (68, .invokevirtual 144, 3, 32, 3, .int 0, [], 431), (71, .goto 5, 3, 0, 76, .null, [], 0), (74, .bipush (-6), 2, 0, 0, .int (-6), [], 0), (76, .ireturn, 1, 0, 0, .null, [], 0)]
def AM_X5_wall : AMinfo := ((5, yX5_wall, cX5_wall, 3, (some .int)), am_r0_X5_wall, (6, 146, false, false), (429, 427, 428, 1, 33, 3))
def am_r0_X5_fell : List AMrow := [(0, .iload_n 1, 1, 1, 0, .null, [], 0), (1, .iconst 0, 1, 0, 0, .int (0), [], 0), (2, .iconst 3, 1, 0, 0, .int (3), [], 0), (3, .invokestatic 47, 3, 79, 3, .int 0, [], 248), (6, .ifCond .ne 6, 3, 0, 12, .null, [], 0), (9, .bipush (-2), 2, 0, 0, .int (-2), [], 0), (11, .ireturn, 1, 0, 0, .null, [], 0), (12, .aload_n 0, 1, 0, 0, .null, [], 0), (13, .getfield 26, 3, 5, 2, .null, [], 224), (16, .aload_n 0, 1, 0, 0, .null, [], 0), (17, .getfield 19, 3, 5, 1, .null, [], 223), (20, .aload_n 0, 1, 0, 0, .null, [], 0), (21, .getfield 10, 3, 5, 0, .null, [], 222), (24, .invokevirtual 121, 3, 23, 3, .int 0, [], 341), (27, .ifCond .ne 6, 3, 0, 33, .null, [], 0), (30, .bipush (-5), 2, 0, 0, .int (-5), [], 0), (32, .ireturn, 1, 0, 0, .null, [], 0), (33, .iload_n 1, 1, 1, 0, .null, [], 0), (34, .tableswitch 50 0 2 #[26, 34, 42], 26, 0, 84, .null, [(0, 60), (1, 68), (2, 76)], 0), (60, .aload_n 0, 1, 0, 0, .null, [], 0), (61, .getfield 26, 3, 5, 2, .null, [], 224), (64, .getfield 148, 3, 3, 4, .null, [], 175), (67, .ireturn, 1, 0, 0, .null, [], 0), (68, .aload_n 0, 1, 0, 0, .null, [], 0), (69, .getfield 26, 3, 5, 2, .null, [], 224), (72, .getfield 151, 3, 3, 5, .null, [], 177), (75, .ireturn, 1, 0, 0, .null, [], 0), (76, .aload_n 0, 1, 0, 0, .null, [], 0), (77, .getfield 26, 3, 5, 2, .null, [], 224), (80, .getfield 154, 3, 3, 6, .null, [], 179), (83, .ireturn, 1, 0, 0, .null, [], 0), (84, .aload_n 0, 1, 0, 0, .null, [], 0), (85, .getfield 26, 3, 5, 2, .null, [], 224), (88, .getfield 131, 3, 3, 0, .null, [], 167), (91, .getfield 157, 3, 4, 13, .null, [], 103), (94, .ireturn, 1, 0, 0, .null, [], 0)]
def AM_X5_fell : AMinfo := ((5, yX5_fell, cX5_fell, 2, (some .int)), am_r0_X5_fell, (6, 146, false, false), (438, 436, 437, 1, 33, 2))
def am_r0_X5_bears : List AMrow := [(0, .aload_n 0, 1, 0, 0, .null, [], 0), (1, .getfield 10, 3, 5, 0, .null, [], 222), (4, .iload_n 1, 1, 1, 0, .null, [], 0), (5, .invokevirtual 86, 3, 29, 2, .int 0, [], 277), (8, .ifCond .eq 14, 3, 0, 22, .null, [], 0), (11, .aload_n 0, 1, 0, 0, .null, [], 0), (12, .getfield 10, 3, 5, 0, .null, [], 222), (15, .iload_n 1, 1, 1, 0, .null, [], 0), (16, .invokevirtual 160, 3, 37, 2, .int 0, [], 443), (19, .goto 4, 3, 0, 23, .null, [], 0), (22, .iconst (-1), 1, 0, 0, .int (-1), [], 0), (23, .ireturn, 1, 0, 0, .null, [], 0)]
def AM_X5_bears : AMinfo := ((5, yX5_bears, cX5_bears, 2, (some .int)), am_r0_X5_bears, (3, 75, false, false), (442, 440, 441, 1, 33, 2))
def am_r0_X5_all : List AMrow := [(0, .aload_n 0, 1, 0, 0, .null, [], 0), (1, .getfield 10, 3, 5, 0, .null, [], 222), (4, .iload_n 1, 1, 1, 0, .null, [], 0), (5, .invokevirtual 163, 3, 30, 2, .int 0, [], 451), (8, .ifCond .ne 5, 3, 0, 13, .null, [], 0), (11, .iconst (-1), 1, 0, 0, .int (-1), [], 0), (12, .ireturn, 1, 0, 0, .null, [], 0), (13, .iload_n 2, 1, 2, 0, .null, [], 0), (14, .iconst 0, 1, 0, 0, .int (0), [], 0), (15, .iconst 1, 1, 0, 0, .int (1), [], 0), (16, .invokestatic 47, 3, 79, 3, .int 0, [], 248), (19, .ifCond .ne 6, 3, 0, 25, .null, [], 0), (22, .bipush (-2), 2, 0, 0, .int (-2), [], 0), (24, .ireturn, 1, 0, 0, .null, [], 0), (25, .aload_n 0, 1, 0, 0, .null, [], 0), (26, .getfield 10, 3, 5, 0, .null, [], 222), (29, .iload_n 1, 1, 1, 0, .null, [], 0), (30, .invokevirtual 166, 3, 39, 2, .int 0, [], 455), (33, .istore_n 3, 1, 3, 0, .null, [], 0), (34, .iload_n 2, 1, 2, 0, .null, [], 0), (35, .ifCond .ne 8, 3, 0, 43, .null, [], 0), (38, .iload_n 3, 1, 3, 0, .null, [], 0), (39, .invokestatic 81, 3, 152, 1, .int 0, [], 267), (42, .ireturn, 1, 0, 0, .null, [], 0), (43, .iload_n 3, 1, 3, 0, .null, [], 0), (44, .ifCond .ne 8, 3, 0, 52, .null, [], 0), (47, .bipush (-6), 2, 0, 0, .int (-6), [], 0), (49, .goto 13, 3, 0, 62, .null, [], 0), (52, .iload_n 3, 1, 3, 0, .null, [], 0), (53, .invokestatic 169, 3, 83, 1, .int 0, [], 463), (56, .bipush 9, 2, 0, 0, .int (9), [], 0), (58, .isub, 1, 0, 0, .null, [], 0), (59, .bipush 10, 2, 0, 0, .int (10), [], 0), (61, .iadd, 1, 0, 0, .null, [], 0), (62, .ireturn, 1, 0, 0, .null, [], 0)]
def AM_X5_all : AMinfo := ((5, yX5_all, cX5_all, 4, (some .int)), am_r0_X5_all, (4, 98, false, false), (450, 448, 449, 1, 33, 3))
def am_r0_X5_wedges : List AMrow := [(0, .aload_n 0, 1, 0, 0, .null, [], 0), (1, .getfield 10, 3, 5, 0, .null, [], 222), (4, .iload_n 1, 1, 1, 0, .null, [], 0), (5, .invokevirtual 141, 3, 31, 2, .int 0, [], 430), (8, .ifCond .eq 14, 3, 0, 22, .null, [], 0), (11, .aload_n 0, 1, 0, 0, .null, [], 0), (12, .getfield 10, 3, 5, 0, .null, [], 222), (15, .iload_n 2, 1, 2, 0, .null, [], 0), (16, .invokevirtual 163, 3, 30, 2, .int 0, [], 451), (19, .ifCond .ne 5, 3, 0, 24, .null, [], 0), (22, .iconst (-1), 1, 0, 0, .int (-1), [], 0), (23, .ireturn, 1, 0, 0, .null, [], 0), (24, .iload_n 3, 1, 3, 0, .null, [], 0), (25, .iconst 0, 1, 0, 0, .int (0), [], 0), (26, .iconst 1, 1, 0, 0, .int (1), [], 0), (27, .invokestatic 47, 3, 79, 3, .int 0, [], 248), (30, .ifCond .ne 6, 3, 0, 36, .null, [], 0), (33, .bipush (-2), 2, 0, 0, .int (-2), [], 0), (35, .ireturn, 1, 0, 0, .null, [], 0), (36, .aload_n 0, 1, 0, 0, .null, [], 0), (37, .getfield 10, 3, 5, 0, .null, [], 222), (40, .iload_n 2, 1, 2, 0, .null, [], 0), (41, .invokevirtual 166, 3, 39, 2, .int 0, [], 455), (44, .istore 4, 2, 4, 0, .null, [], 0), (46, .iload 4, 2, 4, 0, .null, [], 0), (48, .ifCond .ne 6, 3, 0, 54, .null, [], 0), (51, .bipush (-6), 2, 0, 0, .int (-6), [], 0), (53, .ireturn, 1, 0, 0, .null, [], 0), (54, .aload_n 0, 1, 0, 0, .null, [], 0), (55, .getfield 10, 3, 5, 0, .null, [], 222), (58, .getfield 172, 3, 4, 7, .null, [], 92), (61, .iload_n 1, 1, 1, 0, .null, [], 0), (62, .invokevirtual 59, 3, 11, 2, .int 0, [], 254), (65, .istore 5, 2, 5, 0, .null, [], 0), (67, .iload 4, 2, 4, 0, .null, [], 0), (69, .iload 5, 2, 5, 0, .null, [], 0), (71, .bipush 9, 2, 0, 0, .int (9), [], 0), (73, .iadd, 1, 0, 0, .null, [], 0), (74, .invokestatic 175, 3, 84, 2, .int 0, [], 471), (77, .bipush 9, 2, 0, 0, .int (9), [], 0), (79, .isub, 1, 0, 0, .null, [], 0), (80, .istore 6, 2, 6, 0, .null, [], 0), (82, .iload_n 3, 1, 3, 0, .null, [], 0), (83, .ifCond .ne 14, 3, 0, 97, .null, [], 0), (86, .iload 6, 2, 6, 0, .null, [], 0), (88, .iload 5, 2, 5, 0, .null, [], 0), (90, .isub, 1, 0, 0, .null, [], 0), (91, .invokestatic 178, 3, 997, 0, .null, [], 474), (94, .goto 8, 3, 0, 102, .null, [], 0), (97, .iload 6, 2, 6, 0, .null, [], 0), (99, .bipush 10, 2, 0, 0, .int (10), [], 0), (101, .iadd, 1, 0, 0, .null, [], 0), (102, .ireturn, 1, 0, 0, .null, [], 0)]
def AM_X5_wedges : AMinfo := ((5, yX5_wedges, cX5_wedges, 7, (some .int)), am_r0_X5_wedges, (4, 98, false, false), (470, 468, 469, 1, 33, 4))
def am_r0_X5_meet : List AMrow := [(0, .aload_n 0, 1, 0, 0, .null, [], 0), (1, .getfield 10, 3, 5, 0, .null, [], 222), (4, .iload_n 1, 1, 1, 0, .null, [], 0), (5, .invokevirtual 86, 3, 29, 2, .int 0, [], 277), (8, .ifCond .eq 14, 3, 0, 22, .null, [], 0), (11, .aload_n 0, 1, 0, 0, .null, [], 0), (12, .getfield 10, 3, 5, 0, .null, [], 222), (15, .iload_n 2, 1, 2, 0, .null, [], 0), (16, .invokevirtual 86, 3, 29, 2, .int 0, [], 277), (19, .ifCond .ne 5, 3, 0, 24, .null, [], 0), (22, .iconst (-1), 1, 0, 0, .int (-1), [], 0), (23, .ireturn, 1, 0, 0, .null, [], 0), (24, .iload_n 3, 1, 3, 0, .null, [], 0), (25, .iconst 0, 1, 0, 0, .int (0), [], 0), (26, .bipush 40, 2, 0, 0, .int (40), [], 0), (28, .invokestatic 47, 3, 79, 3, .int 0, [], 248), (31, .ifCond .eq 13, 3, 0, 44, .null, [], 0), (34, .iload 4, 2, 4, 0, .null, [], 0), (36, .iconst 0, 1, 0, 0, .int (0), [], 0), (37, .iconst 1, 1, 0, 0, .int (1), [], 0), (38, .invokestatic 47, 3, 79, 3, .int 0, [], 248), (41, .ifCond .ne 6, 3, 0, 47, .null, [], 0), (44, .bipush (-2), 2, 0, 0, .int (-2), [], 0), (46, .ireturn, 1, 0, 0, .null, [], 0), (47, .iconst 0, 1, 0, 0, .int (0), [], 0), (48, .istore 5, 2, 5, 0, .null, [], 0), (50, .aload_n 0, 1, 0, 0, .null, [], 0), (51, .iconst 0, 1, 0, 0, .int (0), [], 0), (52, .iload_n 3, 1, 3, 0, .null, [], 0), (53, .iload_n 1, 1, 1, 0, .null, [], 0), (54, .iload_n 2, 1, 2, 0, .null, [], 0), (55, .invokevirtual 183, 3, 87, 5, .int 0, [], 479), (58, .istore 6, 2, 6, 0, .null, [], 0), (60, .iconst 1, 1, 0, 0, .int (1), [], 0), (61, .istore 7, 2, 7, 0, .null, [], 0), (63, .iload 7, 2, 7, 0, .null, [], 0), (65, .iload_n 3, 1, 3, 0, .null, [], 0), (66, .if_icmp .gt 35, 3, 0, 101, .null, [], 0), (69, .aload_n 0, 1, 0, 0, .null, [], 0), (70, .iload 7, 2, 7, 0, .null, [], 0), (72, .iload_n 3, 1, 3, 0, .null, [], 0), (73, .iload_n 1, 1, 1, 0, .null, [], 0), (74, .iload_n 2, 1, 2, 0, .null, [], 0), (75, .invokevirtual 183, 3, 87, 5, .int 0, [], 479), (78, .istore 8, 2, 8, 0, .null, [], 0), (80, .iload 8, 2, 8, 0, .null, [], 0), (82, .iload 6, 2, 6, 0, .null, [], 0), (84, .if_icmp .ge 11, 3, 0, 95, .null, [], 0), (87, .iload 8, 2, 8, 0, .null, [], 0), (89, .istore 6, 2, 6, 0, .null, [], 0), (91, .iload 7, 2, 7, 0, .null, [], 0), (93, .istore 5, 2, 5, 0, .null, [], 0), (95, .iinc 7 1, 3, 7, 0, .int (1), [], 0), (98, .goto (-35), 3, 0, 63, .null, [], 0), (101, .iload 4, 2, 4, 0, .null, [], 0), (103, .ifCond .ne 8, 3, 0, 111, .null, [], 0), (106, .iload 6, 2, 6, 0, .null, [], 0), (108, .goto 5, 3, 0, 113, .null, [], 0), (111, .iload 5, 2, 5, 0, .null, [], 0), (113, .ireturn, 1, 0, 0, .null, [], 0)]
def AM_X5_meet : AMinfo := ((5, yX5_meet, cX5_meet, 9, (some .int)), am_r0_X5_meet, (3, 66, false, false), (478, 476, 477, 1, 33, 5))
def am_r0_X5_ways : List AMrow := [(0, .aload_n 0, 1, 0, 0, .null, [], 0), (1, .getfield 10, 3, 5, 0, .null, [], 222), (4, .iload_n 1, 1, 1, 0, .null, [], 0), (5, .invokevirtual 86, 3, 29, 2, .int 0, [], 277), (8, .ifCond .ne 5, 3, 0, 13, .null, [], 0), (11, .iconst (-1), 1, 0, 0, .int (-1), [], 0), (12, .ireturn, 1, 0, 0, .null, [], 0), (13, .iload_n 2, 1, 2, 0, .null, [], 0), (14, .invokestatic 97, 3, 81, 1, .int 0, [], 302), (17, .ifCond .eq 20, 3, 0, 37, .null, [], 0), (20, .iload_n 3, 1, 3, 0, .null, [], 0), (21, .invokestatic 97, 3, 81, 1, .int 0, [], 302), (24, .ifCond .eq 13, 3, 0, 37, .null, [], 0), (27, .iload 4, 2, 4, 0, .null, [], 0), (29, .iconst 0, 1, 0, 0, .int (0), [], 0), (30, .iconst 1, 1, 0, 0, .int (1), [], 0), (31, .invokestatic 47, 3, 79, 3, .int 0, [], 248), (34, .ifCond .ne 6, 3, 0, 40, .null, [], 0), (37, .bipush (-2), 2, 0, 0, .int (-2), [], 0), (39, .ireturn, 1, 0, 0, .null, [], 0), (40, .iload_n 2, 1, 2, 0, .null, [], 0), (41, .iload_n 3, 1, 3, 0, .null, [], 0), (42, .if_icmp .ne 15, 3, 0, 57, .null, [], 0), (45, .iload 4, 2, 4, 0, .null, [], 0), (47, .ifCond .ne 7, 3, 0, 54, .null, [], 0), (50, .iconst 0, 1, 0, 0, .int (0), [], 0), (51, .goto 5, 3, 0, 56, .null, [], 0), (54, .bipush (-6), 2, 0, 0, .int (-6), [], 0), (56, .ireturn, 1, 0, 0, .null, [], 0), (57, .iconst 1, 1, 0, 0, .int (1), [], 0), (58, .iload_n 3, 1, 3, 0, .null, [], 0), (59, .ishl, 1, 0, 0, .null, [], 0), (60, .istore 5, 2, 5, 0, .null, [], 0), (62, .iconst 1, 1, 0, 0, .int (1), [], 0), (63, .istore 6, 2, 6, 0, .null, [], 0), (65, .iload 6, 2, 6, 0, .null, [], 0), (67, .bipush 10, 2, 0, 0, .int (10), [], 0), (69, .if_icmp .ge 62, 3, 0, 131, .null, [], 0), (72, .aload_n 0, 1, 0, 0, .null, [], 0), (73, .getfield 10, 3, 5, 0, .null, [], 222), (76, .iload 5, 2, 5, 0, .null, [], 0), (78, .iload_n 1, 1, 1, 0, .null, [], 0), (79, .invokevirtual 187, 3, 40, 3, .int 0, [], 488), (82, .istore 7, 2, 7, 0, .null, [], 0), (84, .iload 7, 2, 7, 0, .null, [], 0), (86, .iload_n 2, 1, 2, 0, .null, [], 0), (87, .invokestatic 190, 3, 82, 2, .int 0, [], 466), (90, .ifCond .eq 31, 3, 0, 121, .null, [], 0), (93, .iload 4, 2, 4, 0, .null, [], 0), (95, .ifCond .ne 8, 3, 0, 103, .null, [], 0), (98, .iload 6, 2, 6, 0, .null, [], 0), (100, .goto 20, 3, 0, 120, .null, [], 0), (103, .aload_n 0, 1, 0, 0, .null, [], 0), (104, .getfield 10, 3, 5, 0, .null, [], 222), (107, .iconst 1, 1, 0, 0, .int (1), [], 0), (108, .iload_n 2, 1, 2, 0, .null, [], 0), (109, .ishl, 1, 0, 0, .null, [], 0), (110, .iload_n 1, 1, 1, 0, .null, [], 0), (111, .invokevirtual 187, 3, 40, 3, .int 0, [], 488), (114, .iload 5, 2, 5, 0, .null, [], 0)]
def am_r1_X5_ways : List AMrow := [(116, .iand, 1, 0, 0, .null, [], 0), (117, .invokestatic 169, 3, 83, 1, .int 0, [], 463), (120, .ireturn, 1, 0, 0, .null, [], 0), (121, .iload 7, 2, 7, 0, .null, [], 0), (123, .istore 5, 2, 5, 0, .null, [], 0), (125, .iinc 6 1, 3, 6, 0, .int (1), [], 0), (128, .goto (-63), 3, 0, 65, .null, [], 0), (131, .bipush (-6), 2, 0, 0, .int (-6), [], 0), (133, .ireturn, 1, 0, 0, .null, [], 0)]
def AM_X5_ways : AMinfo := ((5, yX5_ways, cX5_ways, 8, (some .int)), am_r0_X5_ways ++ am_r1_X5_ways, (3, 78, false, false), (487, 485, 486, 1, 33, 5))
def am_r0_X5_reach : List AMrow := [(0, .aload_n 0, 1, 0, 0, .null, [], 0), (1, .getfield 10, 3, 5, 0, .null, [], 222), (4, .iload_n 1, 1, 1, 0, .null, [], 0), (5, .invokevirtual 86, 3, 29, 2, .int 0, [], 277), (8, .ifCond .ne 5, 3, 0, 13, .null, [], 0), (11, .iconst (-1), 1, 0, 0, .int (-1), [], 0), (12, .ireturn, 1, 0, 0, .null, [], 0), (13, .iload_n 2, 1, 2, 0, .null, [], 0), (14, .invokestatic 97, 3, 81, 1, .int 0, [], 302), (17, .ifCond .ne 6, 3, 0, 23, .null, [], 0), (20, .bipush (-2), 2, 0, 0, .int (-2), [], 0), (22, .ireturn, 1, 0, 0, .null, [], 0), (23, .iconst 1, 1, 0, 0, .int (1), [], 0), (24, .iload_n 2, 1, 2, 0, .null, [], 0), (25, .ishl, 1, 0, 0, .null, [], 0), (26, .istore_n 3, 1, 3, 0, .null, [], 0), (27, .iconst 1, 1, 0, 0, .int (1), [], 0), (28, .istore 4, 2, 4, 0, .null, [], 0), (30, .iload 4, 2, 4, 0, .null, [], 0), (32, .bipush 10, 2, 0, 0, .int (10), [], 0), (34, .if_icmp .ge 19, 3, 0, 53, .null, [], 0), (37, .aload_n 0, 1, 0, 0, .null, [], 0), (38, .getfield 10, 3, 5, 0, .null, [], 222), (41, .iload_n 3, 1, 3, 0, .null, [], 0), (42, .iload_n 1, 1, 1, 0, .null, [], 0), (43, .invokevirtual 187, 3, 40, 3, .int 0, [], 488), (46, .istore_n 3, 1, 3, 0, .null, [], 0), (47, .iinc 4 1, 3, 4, 0, .int (1), [], 0), (50, .goto (-20), 3, 0, 30, .null, [], 0), (53, .iload_n 3, 1, 3, 0, .null, [], 0), (54, .ireturn, 1, 0, 0, .null, [], 0)]
def AM_X5_reach : AMinfo := ((5, yX5_reach, cX5_reach, 5, (some .int)), am_r0_X5_reach, (3, 78, false, false), (495, 493, 494, 1, 33, 3))
def am_r0_X5_seen : List AMrow := [(0, .iload_n 1, 1, 1, 0, .null, [], 0), (1, .invokestatic 51, 3, 80, 1, .int 0, [], 251), (4, .ifCond .eq 12, 3, 0, 16, .null, [], 0), (7, .iload_n 2, 1, 2, 0, .null, [], 0), (8, .iconst 0, 1, 0, 0, .int (0), [], 0), (9, .iconst 2, 1, 0, 0, .int (2), [], 0), (10, .invokestatic 47, 3, 79, 3, .int 0, [], 248), (13, .ifCond .ne 6, 3, 0, 19, .null, [], 0), (16, .bipush (-2), 2, 0, 0, .int (-2), [], 0), (18, .ireturn, 1, 0, 0, .null, [], 0), (19, .aload_n 0, 1, 0, 0, .null, [], 0), (20, .getfield 10, 3, 5, 0, .null, [], 222), (23, .getfield 194, 3, 4, 14, .null, [], 105), (26, .bipush 8, 2, 0, 0, .int (8), [], 0), (28, .if_icmp .lt 6, 3, 0, 34, .null, [], 0), (31, .bipush (-4), 2, 0, 0, .int (-4), [], 0), (33, .ireturn, 1, 0, 0, .null, [], 0), (34, .aload_n 0, 1, 0, 0, .null, [], 0), (35, .getfield 10, 3, 5, 0, .null, [], 222), (38, .dup, 1, 0, 0, .null, [], 0), (39, .getfield 197, 3, 4, 15, .null, [], 107), (42, .iload_n 2, 1, 2, 0, .null, [], 0), (43, .iload_n 1, 1, 1, 0, .null, [], 0), (44, .invokestatic 200, 3, 85, 2, .int 0, [], 500), (47, .iand, 1, 0, 0, .null, [], 0), (48, .putfield 197, 3, 4, 15, .null, [], 107), (51, .aload_n 0, 1, 0, 0, .null, [], 0), (52, .getfield 10, 3, 5, 0, .null, [], 222), (55, .dup, 1, 0, 0, .null, [], 0), (56, .getfield 194, 3, 4, 14, .null, [], 105), (59, .iconst 1, 1, 0, 0, .int (1), [], 0), (60, .iadd, 1, 0, 0, .null, [], 0), (61, .putfield 194, 3, 4, 14, .null, [], 105), (64, .aload_n 0, 1, 0, 0, .null, [], 0), (65, .getfield 10, 3, 5, 0, .null, [], 222), (68, .getfield 194, 3, 4, 14, .null, [], 105), (71, .ireturn, 1, 0, 0, .null, [], 0)]
def AM_X5_seen : AMinfo := ((5, yX5_seen, cX5_seen, 3, (some .int)), am_r0_X5_seen, (2, 42, false, false), (499, 497, 498, 1, 33, 3))
def am_r0_X5_forget : List AMrow := [(0, .aload_n 0, 1, 0, 0, .null, [], 0), (1, .getfield 10, 3, 5, 0, .null, [], 222), (4, .getfield 194, 3, 4, 14, .null, [], 105), (7, .istore_n 1, 1, 1, 0, .null, [], 0), (8, .aload_n 0, 1, 0, 0, .null, [], 0), (9, .getfield 10, 3, 5, 0, .null, [], 222), (12, .iconst 0, 1, 0, 0, .int (0), [], 0), (13, .putfield 194, 3, 4, 14, .null, [], 105), (16, .aload_n 0, 1, 0, 0, .null, [], 0), (17, .getfield 10, 3, 5, 0, .null, [], 222), (20, .ldc 203, 2, 0, 0, .int (524287), [], 503), (22, .putfield 197, 3, 4, 15, .null, [], 107), (25, .iload_n 1, 1, 1, 0, .null, [], 0), (26, .ireturn, 1, 0, 0, .null, [], 0)]
def AM_X5_forget : AMinfo := ((5, yX5_forget, cX5_forget, 2, (some .int)), am_r0_X5_forget, (0, 0, false, false), (507, 505, 506, 1, 33, 1))
def am_r0_X5_downs : List AMrow := [(0, .iload_n 1, 1, 1, 0, .null, [], 0), (1, .iconst (-1), 1, 0, 0, .int (-1), [], 0), (2, .if_icmp .ne 14, 3, 0, 16, .null, [], 0), (5, .aload_n 0, 1, 0, 0, .null, [], 0), (6, .getfield 10, 3, 5, 0, .null, [], 222), (9, .getfield 197, 3, 4, 15, .null, [], 107), (12, .invokestatic 81, 3, 152, 1, .int 0, [], 267), (15, .ireturn, 1, 0, 0, .null, [], 0), (16, .iload_n 1, 1, 1, 0, .null, [], 0), (17, .istore_n 2, 1, 2, 0, .null, [], 0), (18, .bipush (-9), 2, 0, 0, .int (-9), [], 0), (20, .istore_n 3, 1, 3, 0, .null, [], 0), (21, .iload_n 3, 1, 3, 0, .null, [], 0), (22, .bipush 9, 2, 0, 0, .int (9), [], 0), (24, .if_icmp .gt 38, 3, 0, 62, .null, [], 0), (27, .aload_n 0, 1, 0, 0, .null, [], 0), (28, .getfield 10, 3, 5, 0, .null, [], 222), (31, .getfield 197, 3, 4, 15, .null, [], 107), (34, .iload_n 3, 1, 3, 0, .null, [], 0), (35, .bipush 9, 2, 0, 0, .int (9), [], 0), (37, .iadd, 1, 0, 0, .null, [], 0), (38, .invokestatic 190, 3, 82, 2, .int 0, [], 466), (41, .ifCond .eq 15, 3, 0, 56, .null, [], 0), (44, .iload_n 2, 1, 2, 0, .null, [], 0), (45, .ifCond .ne 8, 3, 0, 53, .null, [], 0), (48, .iload_n 3, 1, 3, 0, .null, [], 0), (49, .bipush 10, 2, 0, 0, .int (10), [], 0), (51, .iadd, 1, 0, 0, .null, [], 0), (52, .ireturn, 1, 0, 0, .null, [], 0), (53, .iinc 2 (-1), 3, 2, 0, .int (-1), [], 0), (56, .iinc 3 1, 3, 3, 0, .int (1), [], 0), (59, .goto (-38), 3, 0, 21, .null, [], 0), (62, .bipush (-6), 2, 0, 0, .int (-6), [], 0), (64, .ireturn, 1, 0, 0, .null, [], 0)]
def AM_X5_downs : AMinfo := ((5, yX5_downs, cX5_downs, 4, (some .int)), am_r0_X5_downs, (1, 21, false, false), (511, 509, 510, 1, 33, 2))
def am_r0_X5_next : List AMrow := [(0, .iload_n 1, 1, 1, 0, .null, [], 0), (1, .iconst 0, 1, 0, 0, .int (0), [], 0), (2, .iconst 1, 1, 0, 0, .int (1), [], 0), (3, .invokestatic 47, 3, 79, 3, .int 0, [], 248), (6, .ifCond .ne 6, 3, 0, 12, .null, [], 0), (9, .bipush (-2), 2, 0, 0, .int (-2), [], 0), (11, .ireturn, 1, 0, 0, .null, [], 0), (12, .aload_n 0, 1, 0, 0, .null, [], 0), (13, .getfield 10, 3, 5, 0, .null, [], 222), (16, .getfield 197, 3, 4, 15, .null, [], 107), (19, .ifCond .ne 6, 3, 0, 25, .null, [], 0), (22, .bipush (-6), 2, 0, 0, .int (-6), [], 0), (24, .ireturn, 1, 0, 0, .null, [], 0), (25, .bipush (-9), 2, 0, 0, .int (-9), [], 0), (27, .istore_n 2, 1, 2, 0, .null, [], 0), (28, .iload_n 2, 1, 2, 0, .null, [], 0), (29, .iconst 1, 1, 0, 0, .int (1), [], 0), (30, .iadd, 1, 0, 0, .null, [], 0), (31, .istore_n 3, 1, 3, 0, .null, [], 0), (32, .iload_n 3, 1, 3, 0, .null, [], 0), (33, .bipush 9, 2, 0, 0, .int (9), [], 0), (35, .if_icmp .gt 24, 3, 0, 59, .null, [], 0), (38, .aload_n 0, 1, 0, 0, .null, [], 0), (39, .iload_n 3, 1, 3, 0, .null, [], 0), (40, .invokevirtual 204, 3, 86, 2, .int 0, [], 516), (43, .aload_n 0, 1, 0, 0, .null, [], 0), (44, .iload_n 2, 1, 2, 0, .null, [], 0), (45, .invokevirtual 204, 3, 86, 2, .int 0, [], 516), (48, .if_icmp .ge 5, 3, 0, 53, .null, [], 0), (51, .iload_n 3, 1, 3, 0, .null, [], 0), (52, .istore_n 2, 1, 2, 0, .null, [], 0), (53, .iinc 3 1, 3, 3, 0, .int (1), [], 0), (56, .goto (-24), 3, 0, 32, .null, [], 0), (59, .iload_n 1, 1, 1, 0, .null, [], 0), (60, .ifCond .ne 10, 3, 0, 70, .null, [], 0), (63, .iload_n 2, 1, 2, 0, .null, [], 0), (64, .bipush 10, 2, 0, 0, .int (10), [], 0), (66, .iadd, 1, 0, 0, .null, [], 0), (67, .goto 8, 3, 0, 75, .null, [], 0), (70, .aload_n 0, 1, 0, 0, .null, [], 0), (71, .iload_n 2, 1, 2, 0, .null, [], 0), (72, .invokevirtual 204, 3, 86, 2, .int 0, [], 516), (75, .ireturn, 1, 0, 0, .null, [], 0)]
def AM_X5_next : AMinfo := ((5, yX5_next, cX5_next, 4, (some .int)), am_r0_X5_next, (2, 53, false, false), (515, 513, 514, 1, 33, 2))
def am_r0_X5_settle : List AMrow := [(0, .aload_n 0, 1, 0, 0, .null, [], 0), (1, .getfield 10, 3, 5, 0, .null, [], 222), (4, .iload_n 1, 1, 1, 0, .null, [], 0), (5, .invokevirtual 86, 3, 29, 2, .int 0, [], 277), (8, .ifCond .ne 5, 3, 0, 13, .null, [], 0), (11, .iconst (-1), 1, 0, 0, .int (-1), [], 0), (12, .ireturn, 1, 0, 0, .null, [], 0), (13, .iload_n 2, 1, 2, 0, .null, [], 0), (14, .iconst 0, 1, 0, 0, .int (0), [], 0), (15, .bipush 60, 2, 0, 0, .int (60), [], 0), (17, .invokestatic 47, 3, 79, 3, .int 0, [], 248), (20, .ifCond .ne 6, 3, 0, 26, .null, [], 0), (23, .bipush (-2), 2, 0, 0, .int (-2), [], 0), (25, .ireturn, 1, 0, 0, .null, [], 0), (26, .aload_n 0, 1, 0, 0, .null, [], 0), (27, .getfield 33, 3, 5, 3, .null, [], 225), (30, .aload_n 0, 1, 0, 0, .null, [], 0), (31, .getfield 10, 3, 5, 0, .null, [], 222), (34, .invokevirtual 207, 3, 15, 2, .int 0, [], 525), (37, .iconst 0, 1, 0, 0, .int (0), [], 0), (38, .istore_n 3, 1, 3, 0, .null, [], 0), (39, .iload_n 3, 1, 3, 0, .null, [], 0), (40, .iload_n 2, 1, 2, 0, .null, [], 0), (41, .if_icmp .ge 20, 3, 0, 61, .null, [], 0), (44, .aload_n 0, 1, 0, 0, .null, [], 0), (45, .getfield 33, 3, 5, 3, .null, [], 225), (48, .aload_n 0, 1, 0, 0, .null, [], 0), (49, .getfield 10, 3, 5, 0, .null, [], 222), (52, .invokevirtual 210, 3, 16, 2, .int 0, [], 530), (55, .iinc 3 1, 3, 3, 0, .int (1), [], 0), (58, .goto (-19), 3, 0, 39, .null, [], 0), (61, .aload_n 0, 1, 0, 0, .null, [], 0), (62, .getfield 33, 3, 5, 3, .null, [], 225), (65, .getfield 213, 3, 2, 0, .null, [], 204), (68, .iload_n 1, 1, 1, 0, .null, [], 0), (69, .invokevirtual 59, 3, 11, 2, .int 0, [], 254), (72, .ireturn, 1, 0, 0, .null, [], 0)]
def AM_X5_settle : AMinfo := ((5, yX5_settle, cX5_settle, 4, (some .int)), am_r0_X5_settle, (4, 94, false, false), (524, 522, 523, 1, 33, 3))
def am_r0_X5_again : List AMrow := [(0, .iload_n 1, 1, 1, 0, .null, [], 0), (1, .iconst 0, 1, 0, 0, .int (0), [], 0), (2, .iconst 1, 1, 0, 0, .int (1), [], 0), (3, .invokestatic 47, 3, 79, 3, .int 0, [], 248), (6, .ifCond .ne 6, 3, 0, 12, .null, [], 0), (9, .bipush (-2), 2, 0, 0, .int (-2), [], 0), (11, .ireturn, 1, 0, 0, .null, [], 0), (12, .aload_n 0, 1, 0, 0, .null, [], 0), (13, .getfield 33, 3, 5, 3, .null, [], 225), (16, .aload_n 0, 1, 0, 0, .null, [], 0), (17, .getfield 10, 3, 5, 0, .null, [], 222), (20, .invokevirtual 216, 3, 19, 2, .int 0, [], 550), (23, .iload_n 1, 1, 1, 0, .null, [], 0), (24, .ifCond .ne 13, 3, 0, 37, .null, [], 0), (27, .aload_n 0, 1, 0, 0, .null, [], 0), (28, .getfield 33, 3, 5, 3, .null, [], 225), (31, .getfield 219, 3, 2, 3, .null, [], 208), (34, .goto 18, 3, 0, 52, .null, [], 0), (37, .aload_n 0, 1, 0, 0, .null, [], 0), (38, .getfield 33, 3, 5, 3, .null, [], 225), (41, .getfield 219, 3, 2, 3, .null, [], 208), (44, .aload_n 0, 1, 0, 0, .null, [], 0), (45, .getfield 33, 3, 5, 3, .null, [], 225), (48, .getfield 222, 3, 2, 4, .null, [], 210), (51, .isub, 1, 0, 0, .null, [], 0), (52, .ireturn, 1, 0, 0, .null, [], 0)]
def AM_X5_again : AMinfo := ((5, yX5_again, cX5_again, 2, (some .int)), am_r0_X5_again, (5, 118, false, false), (549, 547, 548, 1, 33, 2))
def am_r0_X5_climb : List AMrow := [(0, .iload_n 1, 1, 1, 0, .null, [], 0), (1, .iconst 0, 1, 0, 0, .int (0), [], 0), (2, .bipush 99, 2, 0, 0, .int (99), [], 0), (4, .invokestatic 47, 3, 79, 3, .int 0, [], 248), (7, .ifCond .eq 54, 3, 0, 61, .null, [], 0), (10, .iload_n 2, 1, 2, 0, .null, [], 0), (11, .iconst 0, 1, 0, 0, .int (0), [], 0), (12, .bipush 8, 2, 0, 0, .int (8), [], 0), (14, .invokestatic 47, 3, 79, 3, .int 0, [], 248), (17, .ifCond .eq 44, 3, 0, 61, .null, [], 0), (20, .iload_n 3, 1, 3, 0, .null, [], 0), (21, .iconst 1, 1, 0, 0, .int (1), [], 0), (22, .bipush 9, 2, 0, 0, .int (9), [], 0), (24, .invokestatic 47, 3, 79, 3, .int 0, [], 248), (27, .ifCond .eq 34, 3, 0, 61, .null, [], 0), (30, .iload 4, 2, 4, 0, .null, [], 0), (32, .iconst 0, 1, 0, 0, .int (0), [], 0), (33, .bipush 10, 2, 0, 0, .int (10), [], 0), (35, .invokestatic 47, 3, 79, 3, .int 0, [], 248), (38, .ifCond .eq 23, 3, 0, 61, .null, [], 0), (41, .iload 5, 2, 5, 0, .null, [], 0), (43, .iconst 0, 1, 0, 0, .int (0), [], 0), (44, .iconst 1, 1, 0, 0, .int (1), [], 0), (45, .invokestatic 47, 3, 79, 3, .int 0, [], 248), (48, .ifCond .eq 13, 3, 0, 61, .null, [], 0), (51, .iload 6, 2, 6, 0, .null, [], 0), (53, .iconst 0, 1, 0, 0, .int (0), [], 0), (54, .iconst 1, 1, 0, 0, .int (1), [], 0), (55, .invokestatic 47, 3, 79, 3, .int 0, [], 248), (58, .ifCond .ne 7, 3, 0, 65, .null, [], 0), (61, .ldc2_w 225, 3, 0, 0, .long (-1000000000000000002), [], 564), (64, .lreturn, 1, 0, 0, .null, [], 0), (65, .iload_n 1, 1, 1, 0, .null, [], 0), (66, .iload_n 2, 1, 2, 0, .null, [], 0), (67, .iload_n 3, 1, 3, 0, .null, [], 0), (68, .imul, 1, 0, 0, .null, [], 0), (69, .iadd, 1, 0, 0, .null, [], 0), (70, .i2l, 1, 0, 0, .null, [], 0), (71, .lstore 7, 2, 7, 0, .null, [], 0), (73, .lconst 1, 1, 0, 0, .long (1), [], 0), (74, .lstore 9, 2, 9, 0, .null, [], 0), (76, .iconst 0, 1, 0, 0, .int (0), [], 0), (77, .istore 11, 2, 11, 0, .null, [], 0), (79, .iload_n 2, 1, 2, 0, .null, [], 0), (80, .iconst 1, 1, 0, 0, .int (1), [], 0), (81, .isub, 1, 0, 0, .null, [], 0), (82, .istore 12, 2, 12, 0, .null, [], 0), (84, .iload 12, 2, 12, 0, .null, [], 0), (86, .ifCond .lt 64, 3, 0, 150, .null, [], 0), (89, .lload 9, 2, 9, 0, .null, [], 0), (91, .ldc2_w 227, 3, 0, 0, .long (10), [], 565), (94, .lmul, 1, 0, 0, .null, [], 0), (95, .lstore 9, 2, 9, 0, .null, [], 0), (97, .iload_n 1, 1, 1, 0, .null, [], 0), (98, .iload 12, 2, 12, 0, .null, [], 0), (100, .iload_n 3, 1, 3, 0, .null, [], 0), (101, .imul, 1, 0, 0, .null, [], 0), (102, .iadd, 1, 0, 0, .null, [], 0), (103, .i2l, 1, 0, 0, .null, [], 0), (104, .lload 9, 2, 9, 0, .null, [], 0)]
def am_r1_X5_climb : List AMrow := [(106, .lmul, 1, 0, 0, .null, [], 0), (107, .lstore 13, 2, 13, 0, .null, [], 0), (109, .bipush 10, 2, 0, 0, .int (10), [], 0), (111, .iload 4, 2, 4, 0, .null, [], 0), (113, .isub, 1, 0, 0, .null, [], 0), (114, .i2l, 1, 0, 0, .null, [], 0), (115, .lload 7, 2, 7, 0, .null, [], 0), (117, .lmul, 1, 0, 0, .null, [], 0), (118, .lstore 15, 2, 15, 0, .null, [], 0), (120, .lload 15, 2, 15, 0, .null, [], 0), (122, .lload 13, 2, 13, 0, .null, [], 0), (124, .lcmp, 1, 0, 0, .null, [], 0), (125, .ifCond .le 7, 3, 0, 132, .null, [], 0), (128, .iconst 1, 1, 0, 0, .int (1), [], 0), (129, .goto 4, 3, 0, 133, .null, [], 0), (132, .iconst 0, 1, 0, 0, .int (0), [], 0), (133, .istore 11, 2, 11, 0, .null, [], 0), (135, .lload 15, 2, 15, 0, .null, [], 0), (137, .lload 13, 2, 13, 0, .null, [], 0), (139, .invokestatic 229, 3, 995, 0, .null, [], 566), (142, .lstore 7, 2, 7, 0, .null, [], 0), (144, .iinc 12 (-1), 3, 12, 0, .int (-1), [], 0), (147, .goto (-63), 3, 0, 84, .null, [], 0), (150, .iload 5, 2, 5, 0, .null, [], 0), (152, .iconst 1, 1, 0, 0, .int (1), [], 0), (153, .if_icmp .ne 14, 3, 0, 167, .null, [], 0), (156, .iload 11, 2, 11, 0, .null, [], 0), (158, .ifCond .eq 7, 3, 0, 165, .null, [], 0), (161, .lconst 1, 1, 0, 0, .long (1), [], 0), (162, .goto 4, 3, 0, 166, .null, [], 0), (165, .lconst 0, 1, 0, 0, .long (0), [], 0), (166, .lreturn, 1, 0, 0, .null, [], 0), (167, .lload 7, 2, 7, 0, .null, [], 0), (169, .lload 9, 2, 9, 0, .null, [], 0), (171, .iload 6, 2, 6, 0, .null, [], 0), (173, .invokestatic 233, 3, 88, 3, .int 0, [], 569), (176, .lreturn, 1, 0, 0, .null, [], 0)]
def AM_X5_climb : AMinfo := ((5, yX5_climb, cX5_climb, 17, (some .long)), am_r0_X5_climb ++ am_r1_X5_climb, (2, 58, false, false), (563, 561, 562, 1, 33, 7))
def am_r0_X5_book : List AMrow := [(0, .iload_n 1, 1, 1, 0, .null, [], 0), (1, .iconst 0, 1, 0, 0, .int (0), [], 0), (2, .sipush 9999, 3, 0, 0, .int (9999), [], 0), (5, .invokestatic 47, 3, 79, 3, .int 0, [], 248), (8, .ifCond .eq 22, 3, 0, 30, .null, [], 0), (11, .iload_n 2, 1, 2, 0, .null, [], 0), (12, .iconst 1, 1, 0, 0, .int (1), [], 0), (13, .bipush 99, 2, 0, 0, .int (99), [], 0), (15, .invokestatic 47, 3, 79, 3, .int 0, [], 248), (18, .ifCond .eq 12, 3, 0, 30, .null, [], 0), (21, .iload_n 3, 1, 3, 0, .null, [], 0), (22, .iconst 0, 1, 0, 0, .int (0), [], 0), (23, .iconst 2, 1, 0, 0, .int (2), [], 0), (24, .invokestatic 47, 3, 79, 3, .int 0, [], 248), (27, .ifCond .ne 6, 3, 0, 33, .null, [], 0), (30, .bipush (-2), 2, 0, 0, .int (-2), [], 0), (32, .ireturn, 1, 0, 0, .null, [], 0), (33, .aload_n 0, 1, 0, 0, .null, [], 0), (34, .getfield 26, 3, 5, 2, .null, [], 224), (37, .iload_n 1, 1, 1, 0, .null, [], 0), (38, .iload_n 2, 1, 2, 0, .null, [], 0), (39, .aload_n 0, 1, 0, 0, .null, [], 0), (40, .getfield 10, 3, 5, 0, .null, [], 222), (43, .invokevirtual 237, 3, 24, 4, .int 0, [], 579), (46, .iload_n 3, 1, 3, 0, .null, [], 0), (47, .ifCond .ne 17, 3, 0, 64, .null, [], 0), (50, .aload_n 0, 1, 0, 0, .null, [], 0), (51, .getfield 26, 3, 5, 2, .null, [], 224), (54, .getfield 131, 3, 3, 0, .null, [], 167), (57, .getfield 241, 3, 4, 6, .null, [], 90), (60, .invokestatic 81, 3, 152, 1, .int 0, [], 267), (63, .ireturn, 1, 0, 0, .null, [], 0), (64, .iload_n 3, 1, 3, 0, .null, [], 0), (65, .iconst 1, 1, 0, 0, .int (1), [], 0), (66, .if_icmp .ne 13, 3, 0, 79, .null, [], 0), (69, .aload_n 0, 1, 0, 0, .null, [], 0), (70, .getfield 26, 3, 5, 2, .null, [], 224), (73, .getfield 154, 3, 3, 6, .null, [], 179), (76, .goto 13, 3, 0, 89, .null, [], 0), (79, .aload_n 0, 1, 0, 0, .null, [], 0), (80, .getfield 26, 3, 5, 2, .null, [], 224), (83, .getfield 131, 3, 3, 0, .null, [], 167), (86, .invokevirtual 244, 3, 41, 1, .int 0, [], 587), (89, .ireturn, 1, 0, 0, .null, [], 0)]
def AM_X5_book : AMinfo := ((5, yX5_book, cX5_book, 4, (some .int)), am_r0_X5_book, (6, 148, false, false), (578, 576, 577, 1, 33, 4))
def am_r0_X5_image : List AMrow := [(0, .iload_n 1, 1, 1, 0, .null, [], 0), (1, .iconst 0, 1, 0, 0, .int (0), [], 0), (2, .iconst 1, 1, 0, 0, .int (1), [], 0), (3, .invokestatic 47, 3, 79, 3, .int 0, [], 248), (6, .ifCond .ne 6, 3, 0, 12, .null, [], 0), (9, .bipush (-2), 2, 0, 0, .int (-2), [], 0), (11, .ireturn, 1, 0, 0, .null, [], 0), (12, .aload_n 0, 1, 0, 0, .null, [], 0), (13, .iload_n 1, 1, 1, 0, .null, [], 0), (14, .invokevirtual 247, 3, 90, 2, .int 0, [], 595), (17, .aload_n 0, 1, 0, 0, .null, [], 0), (18, .getfield 10, 3, 5, 0, .null, [], 222), (21, .invokevirtual 134, 3, 28, 2, .int 0, [], 421), (24, .aload_n 0, 1, 0, 0, .null, [], 0), (25, .dup, 1, 0, 0, .null, [], 0), (26, .getfield 43, 3, 5, 6, .null, [], 228), (29, .iconst 1, 1, 0, 0, .int (1), [], 0), (30, .iload_n 1, 1, 1, 0, .null, [], 0), (31, .ishl, 1, 0, 0, .null, [], 0), (32, .ior, 1, 0, 0, .null, [], 0), (33, .putfield 43, 3, 5, 6, .null, [], 228), (36, .iconst 1, 1, 0, 0, .int (1), [], 0), (37, .ireturn, 1, 0, 0, .null, [], 0)]
def AM_X5_image : AMinfo := ((5, yX5_image, cX5_image, 2, (some .int)), am_r0_X5_image, (3, 64, false, false), (594, 592, 593, 1, 33, 2))
def am_r0_X5_restore : List AMrow := [(0, .iload_n 1, 1, 1, 0, .null, [], 0), (1, .iconst 0, 1, 0, 0, .int (0), [], 0), (2, .iconst 1, 1, 0, 0, .int (1), [], 0), (3, .invokestatic 47, 3, 79, 3, .int 0, [], 248), (6, .ifCond .ne 6, 3, 0, 12, .null, [], 0), (9, .bipush (-2), 2, 0, 0, .int (-2), [], 0), (11, .ireturn, 1, 0, 0, .null, [], 0), (12, .aload_n 0, 1, 0, 0, .null, [], 0), (13, .getfield 43, 3, 5, 6, .null, [], 228), (16, .iload_n 1, 1, 1, 0, .null, [], 0), (17, .invokestatic 190, 3, 82, 2, .int 0, [], 466), (20, .ifCond .ne 6, 3, 0, 26, .null, [], 0), (23, .bipush (-3), 2, 0, 0, .int (-3), [], 0), (25, .ireturn, 1, 0, 0, .null, [], 0), (26, .aload_n 0, 1, 0, 0, .null, [], 0), (27, .getfield 10, 3, 5, 0, .null, [], 222), (30, .aload_n 0, 1, 0, 0, .null, [], 0), (31, .iload_n 1, 1, 1, 0, .null, [], 0), (32, .invokevirtual 247, 3, 90, 2, .int 0, [], 595), (35, .invokevirtual 134, 3, 28, 2, .int 0, [], 421), (38, .iconst 1, 1, 0, 0, .int (1), [], 0), (39, .ireturn, 1, 0, 0, .null, [], 0)]
def AM_X5_restore : AMinfo := ((5, yX5_restore, cX5_restore, 2, (some .int)), am_r0_X5_restore, (3, 64, false, false), (602, 600, 601, 1, 33, 2))
def am_r0_X5_told : List AMrow := [(0, .iload_n 1, 1, 1, 0, .null, [], 0), (1, .bipush 10, 2, 0, 0, .int (10), [], 0), (3, .if_icmp .ge 9, 3, 0, 12, .null, [], 0), (6, .aload_n 0, 1, 0, 0, .null, [], 0), (7, .iload_n 1, 1, 1, 0, .null, [], 0), (8, .invokevirtual 251, 3, 91, 2, .int 0, [], 607), (11, .ireturn, 1, 0, 0, .null, [], 0), (12, .iload_n 1, 1, 1, 0, .null, [], 0), (13, .bipush 20, 2, 0, 0, .int (20), [], 0), (15, .if_icmp .ge 34, 3, 0, 49, .null, [], 0), (18, .iload_n 1, 1, 1, 0, .null, [], 0), (19, .bipush 10, 2, 0, 0, .int (10), [], 0), (21, .isub, 1, 0, 0, .null, [], 0), (22, .iconst 3, 1, 0, 0, .int (3), [], 0), (23, .if_icmp .ge 23, 3, 0, 46, .null, [], 0), (26, .aload_n 0, 1, 0, 0, .null, [], 0), (27, .getfield 10, 3, 5, 0, .null, [], 222), (30, .getfield 55, 3, 4, 0, .null, [], 76), (33, .iload_n 1, 1, 1, 0, .null, [], 0), (34, .bipush 10, 2, 0, 0, .int (10), [], 0), (36, .isub, 1, 0, 0, .null, [], 0), (37, .invokevirtual 59, 3, 11, 2, .int 0, [], 254), (40, .bipush 10, 2, 0, 0, .int (10), [], 0), (42, .iadd, 1, 0, 0, .null, [], 0), (43, .goto 5, 3, 0, 48, .null, [], 0), (46, .bipush (-2), 2, 0, 0, .int (-2), [], 0), (48, .ireturn, 1, 0, 0, .null, [], 0), (49, .iload_n 1, 1, 1, 0, .null, [], 0), (50, .sipush 200, 3, 0, 0, .int (200), [], 0), (53, .if_icmp .ge 18, 3, 0, 71, .null, [], 0), (56, .aload_n 0, 1, 0, 0, .null, [], 0), (57, .iload_n 1, 1, 1, 0, .null, [], 0), (58, .bipush 20, 2, 0, 0, .int (20), [], 0), (60, .idiv, 1, 0, 0, .null, [], 0), (61, .iconst 1, 1, 0, 0, .int (1), [], 0), (62, .isub, 1, 0, 0, .null, [], 0), (63, .iload_n 1, 1, 1, 0, .null, [], 0), (64, .bipush 20, 2, 0, 0, .int (20), [], 0), (66, .irem, 1, 0, 0, .null, [], 0), (67, .invokevirtual 254, 3, 92, 3, .int 0, [], 611), (70, .ireturn, 1, 0, 0, .null, [], 0), (71, .iload_n 1, 1, 1, 0, .null, [], 0), (72, .sipush 300, 3, 0, 0, .int (300), [], 0), (75, .if_icmp .ge 20, 3, 0, 95, .null, [], 0), (78, .aload_n 0, 1, 0, 0, .null, [], 0), (79, .iload_n 1, 1, 1, 0, .null, [], 0), (80, .sipush 200, 3, 0, 0, .int (200), [], 0), (83, .isub, 1, 0, 0, .null, [], 0), (84, .bipush 10, 2, 0, 0, .int (10), [], 0), (86, .idiv, 1, 0, 0, .null, [], 0), (87, .iload_n 1, 1, 1, 0, .null, [], 0), (88, .bipush 10, 2, 0, 0, .int (10), [], 0), (90, .irem, 1, 0, 0, .null, [], 0), (91, .invokevirtual 257, 3, 93, 3, .int 0, [], 615), (94, .ireturn, 1, 0, 0, .null, [], 0), (95, .aload_n 0, 1, 0, 0, .null, [], 0), (96, .iload_n 1, 1, 1, 0, .null, [], 0), (97, .sipush 300, 3, 0, 0, .int (300), [], 0), (100, .isub, 1, 0, 0, .null, [], 0), (101, .invokevirtual 260, 3, 94, 2, .int 0, [], 619)]
def am_r1_X5_told : List AMrow := [(104, .ireturn, 1, 0, 0, .null, [], 0)]
def AM_X5_told : AMinfo := ((5, yX5_told, cX5_told, 2, (some .int)), am_r0_X5_told ++ am_r1_X5_told, (3, 65, false, false), (606, 604, 605, 1, 33, 2))
def am_r0_X5_isIn : List AMrow := [(0, .iload_n 0, 1, 0, 0, .null, [], 0), (1, .iload_n 1, 1, 1, 0, .null, [], 0), (2, .if_icmp .lt 12, 3, 0, 14, .null, [], 0), (5, .iload_n 0, 1, 0, 0, .null, [], 0), (6, .iload_n 2, 1, 2, 0, .null, [], 0), (7, .if_icmp .gt 7, 3, 0, 14, .null, [], 0), (10, .iconst 1, 1, 0, 0, .int (1), [], 0), (11, .goto 4, 3, 0, 15, .null, [], 0), (14, .iconst 0, 1, 0, 0, .int (0), [], 0), (15, .ireturn, 1, 0, 0, .null, [], 0)]
def AM_X5_isIn : AMinfo := ((5, yX5_isIn, cX5_isIn, 3, (some .boolean)), am_r0_X5_isIn, (0, 0, false, false), (250, 249, 0, 0, 33, 3))
def am_r0_X5_isLean : List AMrow := [(0, .iload_n 0, 1, 0, 0, .null, [], 0), (1, .bipush (-9), 2, 0, 0, .int (-9), [], 0), (3, .bipush 9, 2, 0, 0, .int (9), [], 0), (5, .invokestatic 47, 3, 79, 3, .int 0, [], 248), (8, .ireturn, 1, 0, 0, .null, [], 0)]
def AM_X5_isLean : AMinfo := ((5, yX5_isLean, cX5_isLean, 1, (some .boolean)), am_r0_X5_isLean, (1, 22, false, false), (253, 252, 0, 0, 33, 1))
def am_r0_X5_isPlace : List AMrow := [(0, .iload_n 0, 1, 0, 0, .null, [], 0), (1, .iconst 0, 1, 0, 0, .int (0), [], 0), (2, .bipush 9, 2, 0, 0, .int (9), [], 0), (4, .invokestatic 47, 3, 79, 3, .int 0, [], 248), (7, .ireturn, 1, 0, 0, .null, [], 0)]
def AM_X5_isPlace : AMinfo := ((5, yX5_isPlace, cX5_isPlace, 1, (some .boolean)), am_r0_X5_isPlace, (1, 22, false, false), (304, 303, 0, 0, 33, 1))
def am_r0_X5_has : List AMrow := [(0, .iload_n 1, 1, 1, 0, .null, [], 0), (1, .ifCond .lt 22, 3, 0, 23, .null, [], 0), (4, .iload_n 1, 1, 1, 0, .null, [], 0), (5, .bipush 32, 2, 0, 0, .int (32), [], 0), (7, .if_icmp .ge 16, 3, 0, 23, .null, [], 0), (10, .iload_n 0, 1, 0, 0, .null, [], 0), (11, .iload_n 1, 1, 1, 0, .null, [], 0), (12, .ishr, 1, 0, 0, .null, [], 0), (13, .iconst 1, 1, 0, 0, .int (1), [], 0), (14, .iand, 1, 0, 0, .null, [], 0), (15, .iconst 1, 1, 0, 0, .int (1), [], 0), (16, .if_icmp .ne 7, 3, 0, 23, .null, [], 0), (19, .iconst 1, 1, 0, 0, .int (1), [], 0), (20, .goto 4, 3, 0, 24, .null, [], 0), (23, .iconst 0, 1, 0, 0, .int (0), [], 0), (24, .ireturn, 1, 0, 0, .null, [], 0)]
def AM_X5_has : AMinfo := ((5, yX5_has, cX5_has, 2, (some .boolean)), am_r0_X5_has, (0, 0, false, false), (283, 282, 0, 0, 33, 2))
def am_r0_X5_leastOf : List AMrow := [(0, .iconst 0, 1, 0, 0, .int (0), [], 0), (1, .istore_n 1, 1, 1, 0, .null, [], 0), (2, .iload_n 1, 1, 1, 0, .null, [], 0), (3, .bipush 32, 2, 0, 0, .int (32), [], 0), (5, .if_icmp .ge 19, 3, 0, 24, .null, [], 0), (8, .iload_n 0, 1, 0, 0, .null, [], 0), (9, .iload_n 1, 1, 1, 0, .null, [], 0), (10, .invokestatic 190, 3, 82, 2, .int 0, [], 466), (13, .ifCond .eq 5, 3, 0, 18, .null, [], 0), (16, .iload_n 1, 1, 1, 0, .null, [], 0), (17, .ireturn, 1, 0, 0, .null, [], 0), (18, .iinc 1 1, 3, 1, 0, .int (1), [], 0), (21, .goto (-19), 3, 0, 2, .null, [], 0), (24, .bipush (-6), 2, 0, 0, .int (-6), [], 0), (26, .ireturn, 1, 0, 0, .null, [], 0)]
def AM_X5_leastOf : AMinfo := ((5, yX5_leastOf, cX5_leastOf, 2, (some .int)), am_r0_X5_leastOf, (1, 21, false, false), (465, 464, 0, 0, 33, 1))
def am_r0_X5_nearestOf : List AMrow := [(0, .iload_n 0, 1, 0, 0, .null, [], 0), (1, .invokestatic 169, 3, 83, 1, .int 0, [], 463), (4, .istore_n 2, 1, 2, 0, .null, [], 0), (5, .iload_n 2, 1, 2, 0, .null, [], 0), (6, .iconst 1, 1, 0, 0, .int (1), [], 0), (7, .iadd, 1, 0, 0, .null, [], 0), (8, .istore_n 3, 1, 3, 0, .null, [], 0), (9, .iload_n 3, 1, 3, 0, .null, [], 0), (10, .bipush 32, 2, 0, 0, .int (32), [], 0), (12, .if_icmp .ge 34, 3, 0, 46, .null, [], 0), (15, .iload_n 0, 1, 0, 0, .null, [], 0), (16, .iload_n 3, 1, 3, 0, .null, [], 0), (17, .invokestatic 190, 3, 82, 2, .int 0, [], 466), (20, .ifCond .eq 20, 3, 0, 40, .null, [], 0), (23, .iload_n 3, 1, 3, 0, .null, [], 0), (24, .iload_n 1, 1, 1, 0, .null, [], 0), (25, .isub, 1, 0, 0, .null, [], 0), (26, .invokestatic 178, 3, 997, 0, .null, [], 474), (29, .iload_n 2, 1, 2, 0, .null, [], 0), (30, .iload_n 1, 1, 1, 0, .null, [], 0), (31, .isub, 1, 0, 0, .null, [], 0), (32, .invokestatic 178, 3, 997, 0, .null, [], 474), (35, .if_icmp .ge 5, 3, 0, 40, .null, [], 0), (38, .iload_n 3, 1, 3, 0, .null, [], 0), (39, .istore_n 2, 1, 2, 0, .null, [], 0), (40, .iinc 3 1, 3, 3, 0, .int (1), [], 0), (43, .goto (-34), 3, 0, 9, .null, [], 0), (46, .iload_n 2, 1, 2, 0, .null, [], 0), (47, .ireturn, 1, 0, 0, .null, [], 0)]
def AM_X5_nearestOf : AMinfo := ((5, yX5_nearestOf, cX5_nearestOf, 4, (some .int)), am_r0_X5_nearestOf, (2, 42, false, false), (473, 472, 0, 0, 33, 2))
def am_r0_X5_downsThat : List AMrow := [(0, .iconst 1, 1, 0, 0, .int (1), [], 0), (1, .iload_n 1, 1, 1, 0, .null, [], 0), (2, .bipush 9, 2, 0, 0, .int (9), [], 0), (4, .iadd, 1, 0, 0, .null, [], 0), (5, .ishl, 1, 0, 0, .null, [], 0), (6, .istore_n 2, 1, 2, 0, .null, [], 0), (7, .iload_n 2, 1, 2, 0, .null, [], 0), (8, .iconst 1, 1, 0, 0, .int (1), [], 0), (9, .isub, 1, 0, 0, .null, [], 0), (10, .istore_n 3, 1, 3, 0, .null, [], 0), (11, .iload_n 0, 1, 0, 0, .null, [], 0), (12, .ifCond .ne 5, 3, 0, 17, .null, [], 0), (15, .iload_n 3, 1, 3, 0, .null, [], 0), (16, .ireturn, 1, 0, 0, .null, [], 0), (17, .iload_n 0, 1, 0, 0, .null, [], 0), (18, .iconst 1, 1, 0, 0, .int (1), [], 0), (19, .if_icmp .ne 7, 3, 0, 26, .null, [], 0), (22, .iload_n 2, 1, 2, 0, .null, [], 0), (23, .goto 11, 3, 0, 34, .null, [], 0), (26, .ldc 203, 2, 0, 0, .int (524287), [], 503), (28, .iload_n 3, 1, 3, 0, .null, [], 0), (29, .iload_n 2, 1, 2, 0, .null, [], 0), (30, .ior, 1, 0, 0, .null, [], 0), (31, .iconst (-1), 1, 0, 0, .int (-1), [], 0), (32, .ixor, 1, 0, 0, .null, [], 0), (33, .iand, 1, 0, 0, .null, [], 0), (34, .ireturn, 1, 0, 0, .null, [], 0)]
def AM_X5_downsThat : AMinfo := ((5, yX5_downsThat, cX5_downsThat, 4, (some .int)), am_r0_X5_downsThat, (0, 0, false, false), (502, 501, 0, 0, 33, 2))
def am_r0_X5_mostLeftBy : List AMrow := [(0, .iconst 0, 1, 0, 0, .int (0), [], 0), (1, .istore_n 2, 1, 2, 0, .null, [], 0), (2, .iconst 0, 1, 0, 0, .int (0), [], 0), (3, .istore_n 3, 1, 3, 0, .null, [], 0), (4, .iload_n 3, 1, 3, 0, .null, [], 0), (5, .iconst 2, 1, 0, 0, .int (2), [], 0), (6, .if_icmp .gt 30, 3, 0, 36, .null, [], 0), (9, .iload_n 2, 1, 2, 0, .null, [], 0), (10, .aload_n 0, 1, 0, 0, .null, [], 0), (11, .getfield 10, 3, 5, 0, .null, [], 222), (14, .getfield 197, 3, 4, 15, .null, [], 107), (17, .iload_n 3, 1, 3, 0, .null, [], 0), (18, .iload_n 1, 1, 1, 0, .null, [], 0), (19, .invokestatic 200, 3, 85, 2, .int 0, [], 500), (22, .iand, 1, 0, 0, .null, [], 0), (23, .invokestatic 81, 3, 152, 1, .int 0, [], 267), (26, .invokestatic 263, 3, 996, 0, .null, [], 520), (29, .istore_n 2, 1, 2, 0, .null, [], 0), (30, .iinc 3 1, 3, 3, 0, .int (1), [], 0), (33, .goto (-29), 3, 0, 4, .null, [], 0), (36, .iload_n 2, 1, 2, 0, .null, [], 0), (37, .ireturn, 1, 0, 0, .null, [], 0)]
def AM_X5_mostLeftBy : AMinfo := ((5, yX5_mostLeftBy, cX5_mostLeftBy, 4, (some .int)), am_r0_X5_mostLeftBy, (1, 30, false, false), (519, 518, 6, 1, 33, 2))
def am_r0_X5_stepBehind : List AMrow := [(0, .iload_n 1, 1, 1, 0, .null, [], 0), (1, .aload_n 0, 1, 0, 0, .null, [], 0), (2, .getfield 10, 3, 5, 0, .null, [], 222), (5, .iload_n 3, 1, 3, 0, .null, [], 0), (6, .invokevirtual 265, 3, 35, 2, .int 0, [], 483), (9, .imul, 1, 0, 0, .null, [], 0), (10, .iload_n 2, 1, 2, 0, .null, [], 0), (11, .iload_n 1, 1, 1, 0, .null, [], 0), (12, .isub, 1, 0, 0, .null, [], 0), (13, .aload_n 0, 1, 0, 0, .null, [], 0), (14, .getfield 10, 3, 5, 0, .null, [], 222), (17, .iload 4, 2, 4, 0, .null, [], 0), (19, .invokevirtual 265, 3, 35, 2, .int 0, [], 483), (22, .imul, 1, 0, 0, .null, [], 0), (23, .isub, 1, 0, 0, .null, [], 0), (24, .invokestatic 178, 3, 997, 0, .null, [], 474), (27, .ireturn, 1, 0, 0, .null, [], 0)]
def AM_X5_stepBehind : AMinfo := ((5, yX5_stepBehind, cX5_stepBehind, 5, (some .int)), am_r0_X5_stepBehind, (2, 42, false, false), (482, 481, 5, 1, 33, 5))
def am_r0_X5_lowestTerm : List AMrow := [(0, .lload_n 0, 1, 0, 0, .null, [], 0), (1, .lload_n 2, 1, 2, 0, .null, [], 0), (2, .invokestatic 268, 3, 89, 2, .int 0, [], 572), (5, .lstore 5, 2, 5, 0, .null, [], 0), (7, .iload 4, 2, 4, 0, .null, [], 0), (9, .ifCond .ne 7, 3, 0, 16, .null, [], 0), (12, .lload_n 0, 1, 0, 0, .null, [], 0), (13, .goto 4, 3, 0, 17, .null, [], 0), (16, .lload_n 2, 1, 2, 0, .null, [], 0), (17, .lstore 7, 2, 7, 0, .null, [], 0), (19, .lload 5, 2, 5, 0, .null, [], 0), (21, .lconst 0, 1, 0, 0, .long (0), [], 0), (22, .lcmp, 1, 0, 0, .null, [], 0), (23, .ifCond .ne 8, 3, 0, 31, .null, [], 0), (26, .lload 7, 2, 7, 0, .null, [], 0), (28, .goto 8, 3, 0, 36, .null, [], 0), (31, .lload 7, 2, 7, 0, .null, [], 0), (33, .lload 5, 2, 5, 0, .null, [], 0), (35, .ldiv, 1, 0, 0, .null, [], 0), (36, .lreturn, 1, 0, 0, .null, [], 0)]
def AM_X5_lowestTerm : AMinfo := ((5, yX5_lowestTerm, cX5_lowestTerm, 9, (some .long)), am_r0_X5_lowestTerm, (1, 30, false, false), (571, 570, 0, 0, 33, 3))
def am_r0_X5_commonDivisor : List AMrow := [(0, .lload_n 0, 1, 0, 0, .null, [], 0), (1, .lstore 4, 2, 4, 0, .null, [], 0), (3, .lload_n 2, 1, 2, 0, .null, [], 0), (4, .lstore 6, 2, 6, 0, .null, [], 0), (6, .iconst 0, 1, 0, 0, .int (0), [], 0), (7, .istore 8, 2, 8, 0, .null, [], 0), (9, .iload 8, 2, 8, 0, .null, [], 0), (11, .bipush 100, 2, 0, 0, .int (100), [], 0), (13, .if_icmp .ge 31, 3, 0, 44, .null, [], 0), (16, .lload 6, 2, 6, 0, .null, [], 0), (18, .lconst 0, 1, 0, 0, .long (0), [], 0), (19, .lcmp, 1, 0, 0, .null, [], 0), (20, .ifCond .eq 24, 3, 0, 44, .null, [], 0), (23, .lload 4, 2, 4, 0, .null, [], 0), (25, .lload 6, 2, 6, 0, .null, [], 0), (27, .lrem, 1, 0, 0, .null, [], 0), (28, .lstore 9, 2, 9, 0, .null, [], 0), (30, .lload 6, 2, 6, 0, .null, [], 0), (32, .lstore 4, 2, 4, 0, .null, [], 0), (34, .lload 9, 2, 9, 0, .null, [], 0), (36, .lstore 6, 2, 6, 0, .null, [], 0), (38, .iinc 8 1, 3, 8, 0, .int (1), [], 0), (41, .goto (-32), 3, 0, 9, .null, [], 0), (44, .lload 4, 2, 4, 0, .null, [], 0), (46, .lreturn, 1, 0, 0, .null, [], 0)]
def AM_X5_commonDivisor : AMinfo := ((5, yX5_commonDivisor, cX5_commonDivisor, 11, (some .long)), am_r0_X5_commonDivisor, (0, 0, false, false), (574, 573, 0, 0, 33, 2))
def am_r0_X5_imageAt : List AMrow := [(0, .iload_n 1, 1, 1, 0, .null, [], 0), (1, .ifCond .ne 10, 3, 0, 11, .null, [], 0), (4, .aload_n 0, 1, 0, 0, .null, [], 0), (5, .getfield 37, 3, 5, 4, .null, [], 226), (8, .goto 7, 3, 0, 15, .null, [], 0), (11, .aload_n 0, 1, 0, 0, .null, [], 0), (12, .getfield 40, 3, 5, 5, .null, [], 227), (15, .areturn, 1, 0, 0, .null, [], 0)]
def AM_X5_imageAt : AMinfo := ((5, yX5_imageAt, cX5_imageAt, 2, (some (.object "PlumbCreeds$Valley"))), am_r0_X5_imageAt, (0, 0, false, false), (598, 597, 10, 1, 33, 2))
def am_r0_X5_toldOfAll : List AMrow := [(0, .iload_n 1, 1, 1, 0, .null, [], 0), (1, .tableswitch 99 0 6 #[43, 51, 59, 67, 75, 83, 91], 43, 0, 100, .null, [(0, 44), (1, 52), (2, 60), (3, 68), (4, 76), (5, 84), (6, 92)], 0), (44, .aload_n 0, 1, 0, 0, .null, [], 0), (45, .getfield 19, 3, 5, 1, .null, [], 223), (48, .getfield 115, 3, 0, 1, .null, [], 152), (51, .ireturn, 1, 0, 0, .null, [], 0), (52, .aload_n 0, 1, 0, 0, .null, [], 0), (53, .getfield 10, 3, 5, 0, .null, [], 222), (56, .getfield 72, 3, 4, 2, .null, [], 81), (59, .ireturn, 1, 0, 0, .null, [], 0), (60, .aload_n 0, 1, 0, 0, .null, [], 0), (61, .getfield 10, 3, 5, 0, .null, [], 222), (64, .getfield 241, 3, 4, 6, .null, [], 90), (67, .ireturn, 1, 0, 0, .null, [], 0), (68, .aload_n 0, 1, 0, 0, .null, [], 0), (69, .getfield 10, 3, 5, 0, .null, [], 222), (72, .getfield 69, 3, 4, 1, .null, [], 78), (75, .ireturn, 1, 0, 0, .null, [], 0), (76, .aload_n 0, 1, 0, 0, .null, [], 0), (77, .getfield 10, 3, 5, 0, .null, [], 222), (80, .getfield 157, 3, 4, 13, .null, [], 103), (83, .ireturn, 1, 0, 0, .null, [], 0), (84, .aload_n 0, 1, 0, 0, .null, [], 0), (85, .getfield 10, 3, 5, 0, .null, [], 222), (88, .getfield 194, 3, 4, 14, .null, [], 105), (91, .ireturn, 1, 0, 0, .null, [], 0), (92, .aload_n 0, 1, 0, 0, .null, [], 0), (93, .getfield 10, 3, 5, 0, .null, [], 222), (96, .getfield 100, 3, 4, 9, .null, [], 95), (99, .ireturn, 1, 0, 0, .null, [], 0), (100, .bipush (-2), 2, 0, 0, .int (-2), [], 0), (102, .ireturn, 1, 0, 0, .null, [], 0)]
def AM_X5_toldOfAll : AMinfo := ((5, yX5_toldOfAll, cX5_toldOfAll, 2, (some .int)), am_r0_X5_toldOfAll, (0, 0, false, false), (610, 609, 11, 1, 33, 2))
def am_r0_X5_toldOfOne : List AMrow := [(0, .aload_n 0, 1, 0, 0, .null, [], 0), (1, .getfield 10, 3, 5, 0, .null, [], 222), (4, .iload_n 1, 1, 1, 0, .null, [], 0), (5, .invokevirtual 86, 3, 29, 2, .int 0, [], 277), (8, .ifCond .eq 12, 3, 0, 20, .null, [], 0), (11, .iload_n 2, 1, 2, 0, .null, [], 0), (12, .iconst 0, 1, 0, 0, .int (0), [], 0), (13, .iconst 1, 1, 0, 0, .int (1), [], 0), (14, .invokestatic 47, 3, 79, 3, .int 0, [], 248), (17, .ifCond .ne 6, 3, 0, 23, .null, [], 0), (20, .bipush (-2), 2, 0, 0, .int (-2), [], 0), (22, .ireturn, 1, 0, 0, .null, [], 0), (23, .iload_n 2, 1, 2, 0, .null, [], 0), (24, .ifCond .ne 17, 3, 0, 41, .null, [], 0), (27, .aload_n 0, 1, 0, 0, .null, [], 0), (28, .getfield 10, 3, 5, 0, .null, [], 222), (31, .getfield 75, 3, 4, 3, .null, [], 84), (34, .iload_n 1, 1, 1, 0, .null, [], 0), (35, .invokevirtual 59, 3, 11, 2, .int 0, [], 254), (38, .goto 14, 3, 0, 52, .null, [], 0), (41, .aload_n 0, 1, 0, 0, .null, [], 0), (42, .getfield 10, 3, 5, 0, .null, [], 222), (45, .getfield 78, 3, 4, 4, .null, [], 86), (48, .iload_n 1, 1, 1, 0, .null, [], 0), (49, .invokevirtual 59, 3, 11, 2, .int 0, [], 254), (52, .ireturn, 1, 0, 0, .null, [], 0)]
def AM_X5_toldOfOne : AMinfo := ((5, yX5_toldOfOne, cX5_toldOfOne, 3, (some .int)), am_r0_X5_toldOfOne, (2, 42, false, false), (614, 613, 12, 1, 33, 3))
def am_r0_X5_toldOfWall : List AMrow := [(0, .aload_n 0, 1, 0, 0, .null, [], 0), (1, .getfield 10, 3, 5, 0, .null, [], 222), (4, .iload_n 1, 1, 1, 0, .null, [], 0), (5, .invokevirtual 141, 3, 31, 2, .int 0, [], 430), (8, .ifCond .eq 12, 3, 0, 20, .null, [], 0), (11, .iload_n 2, 1, 2, 0, .null, [], 0), (12, .iconst 0, 1, 0, 0, .int (0), [], 0), (13, .iconst 1, 1, 0, 0, .int (1), [], 0), (14, .invokestatic 47, 3, 79, 3, .int 0, [], 248), (17, .ifCond .ne 6, 3, 0, 23, .null, [], 0), (20, .bipush (-2), 2, 0, 0, .int (-2), [], 0), (22, .ireturn, 1, 0, 0, .null, [], 0), (23, .aload_n 0, 1, 0, 0, .null, [], 0), (24, .getfield 10, 3, 5, 0, .null, [], 222), (27, .iload_n 1, 1, 1, 0, .null, [], 0), (28, .iload_n 2, 1, 2, 0, .null, [], 0), (29, .invokevirtual 144, 3, 32, 3, .int 0, [], 431), (32, .ireturn, 1, 0, 0, .null, [], 0)]
def AM_X5_toldOfWall : AMinfo := ((5, yX5_toldOfWall, cX5_toldOfWall, 3, (some .int)), am_r0_X5_toldOfWall, (2, 43, false, false), (618, 617, 13, 1, 33, 3))
def am_r0_X5_toldOfStair : List AMrow := [(0, .aload_n 0, 1, 0, 0, .null, [], 0), (1, .getfield 10, 3, 5, 0, .null, [], 222), (4, .getfield 100, 3, 4, 9, .null, [], 95), (7, .iload_n 1, 1, 1, 0, .null, [], 0), (8, .invokestatic 190, 3, 82, 2, .int 0, [], 466), (11, .ifCond .ne 6, 3, 0, 17, .null, [], 0), (14, .bipush (-2), 2, 0, 0, .int (-2), [], 0), (16, .ireturn, 1, 0, 0, .null, [], 0), (17, .sipush 1000, 3, 0, 0, .int (1000), [], 0), (20, .aload_n 0, 1, 0, 0, .null, [], 0), (21, .getfield 10, 3, 5, 0, .null, [], 222), (24, .getfield 103, 3, 4, 10, .null, [], 97), (27, .iload_n 1, 1, 1, 0, .null, [], 0), (28, .invokevirtual 59, 3, 11, 2, .int 0, [], 254), (31, .imul, 1, 0, 0, .null, [], 0), (32, .bipush 100, 2, 0, 0, .int (100), [], 0), (34, .aload_n 0, 1, 0, 0, .null, [], 0), (35, .getfield 10, 3, 5, 0, .null, [], 222), (38, .getfield 106, 3, 4, 11, .null, [], 99), (41, .iload_n 1, 1, 1, 0, .null, [], 0), (42, .invokevirtual 59, 3, 11, 2, .int 0, [], 254), (45, .imul, 1, 0, 0, .null, [], 0), (46, .iadd, 1, 0, 0, .null, [], 0), (47, .aload_n 0, 1, 0, 0, .null, [], 0), (48, .getfield 10, 3, 5, 0, .null, [], 222), (51, .getfield 109, 3, 4, 12, .null, [], 101), (54, .iload_n 1, 1, 1, 0, .null, [], 0), (55, .invokevirtual 59, 3, 11, 2, .int 0, [], 254), (58, .iadd, 1, 0, 0, .null, [], 0), (59, .bipush 10, 2, 0, 0, .int (10), [], 0), (61, .iadd, 1, 0, 0, .null, [], 0), (62, .ireturn, 1, 0, 0, .null, [], 0)]
def AM_X5_toldOfStair : AMinfo := ((5, yX5_toldOfStair, cX5_toldOfStair, 2, (some .int)), am_r0_X5_toldOfStair, (1, 21, false, false), (622, 621, 14, 1, 33, 2))
def am_r0_X6_init : List AMrow := [(0, .aload_n 0, 1, 0, 0, .null, [], 0), (1, .invokespecial 1, 3, 999, 0, .null, [], 628), (4, .aload_n 0, 1, 0, 0, .null, [], 0), (5, .bipush 32, 2, 0, 0, .int (32), [], 0), (7, .newarray .int, 2, 0, 0, .null, [], 69), (9, .putfield 7, 3, 6, 0, .null, [], 629), (12, .aload_n 0, 1, 0, 0, .null, [], 0), (13, .bipush 32, 2, 0, 0, .int (32), [], 0), (15, .newarray .int, 2, 0, 0, .null, [], 69), (17, .putfield 13, 3, 6, 1, .null, [], 630), (20, .aload_n 0, 1, 0, 0, .null, [], 0), (21, .iconst 3, 1, 0, 0, .int (3), [], 0), (22, .newarray .int, 2, 0, 0, .null, [], 69), (24, .putfield 16, 3, 6, 3, .null, [], 632), (27, .aload_n 0, 1, 0, 0, .null, [], 0), (28, .iconst 3, 1, 0, 0, .int (3), [], 0), (29, .putfield 19, 3, 6, 4, .null, [], 633), (32, .aload_n 0, 1, 0, 0, .null, [], 0), (33, .bipush 7, 2, 0, 0, .int (7), [], 0), (35, .newarray .int, 2, 0, 0, .null, [], 69), (37, .putfield 23, 3, 6, 5, .null, [], 634), (40, .aload_n 0, 1, 0, 0, .null, [], 0), (41, .bipush 12, 2, 0, 0, .int (12), [], 0), (43, .newarray .int, 2, 0, 0, .null, [], 69), (45, .putfield 26, 3, 6, 7, .null, [], 636), (48, .aload_n 0, 1, 0, 0, .null, [], 0), (49, .bipush 12, 2, 0, 0, .int (12), [], 0), (51, .newarray .int, 2, 0, 0, .null, [], 69), (53, .putfield 29, 3, 6, 8, .null, [], 637), (56, .aload_n 0, 1, 0, 0, .null, [], 0), (57, .bipush 12, 2, 0, 0, .int (12), [], 0), (59, .newarray .int, 2, 0, 0, .null, [], 69), (61, .putfield 32, 3, 6, 9, .null, [], 638), (64, .aload_n 0, 1, 0, 0, .null, [], 0), (65, .bipush 16, 2, 0, 0, .int (16), [], 0), (67, .newarray .int, 2, 0, 0, .null, [], 69), (69, .putfield 35, 3, 6, 11, .null, [], 640), (72, .aload_n 0, 1, 0, 0, .null, [], 0), (73, .bipush 60, 2, 0, 0, .int (60), [], 0), (75, .newarray .int, 2, 0, 0, .null, [], 69), (77, .putfield 38, 3, 6, 13, .null, [], 642), (80, .aload_n 0, 1, 0, 0, .null, [], 0), (81, .bipush 10, 2, 0, 0, .int (10), [], 0), (83, .newarray .int, 2, 0, 0, .null, [], 69), (85, .putfield 41, 3, 6, 19, .null, [], 648), (88, .aload_n 0, 1, 0, 0, .null, [], 0), (89, .iconst 3, 1, 0, 0, .int (3), [], 0), (90, .newarray .int, 2, 0, 0, .null, [], 69), (92, .putfield 44, 3, 6, 20, .null, [], 649), (95, .aload_n 0, 1, 0, 0, .null, [], 0), (96, .sipush 2187, 3, 0, 0, .int (2187), [], 0), (99, .newarray .int, 2, 0, 0, .null, [], 69), (101, .putfield 47, 3, 6, 21, .null, [], 650), (104, .aload_n 0, 1, 0, 0, .null, [], 0), (105, .sipush 220, 3, 0, 0, .int (220), [], 0), (108, .newarray .int, 2, 0, 0, .null, [], 69), (110, .putfield 50, 3, 6, 22, .null, [], 651), (113, .aload_n 0, 1, 0, 0, .null, [], 0), (114, .iconst 2, 1, 0, 0, .int (2), [], 0), (115, .newarray .boolean, 2, 1, 0, .null, [], 702)]
def am_r1_X6_init : List AMrow := [(117, .putfield 53, 3, 6, 23, .null, [], 652), (120, .aload_n 0, 1, 0, 0, .null, [], 0), (121, .getfield 16, 3, 6, 3, .null, [], 632), (124, .iconst 0, 1, 0, 0, .int (0), [], 0), (125, .bipush (-3), 2, 0, 0, .int (-3), [], 0), (127, .iastore, 1, 0, 0, .null, [], 0), (128, .aload_n 0, 1, 0, 0, .null, [], 0), (129, .getfield 16, 3, 6, 3, .null, [], 632), (132, .iconst 2, 1, 0, 0, .int (2), [], 0), (133, .iconst 3, 1, 0, 0, .int (3), [], 0), (134, .iastore, 1, 0, 0, .null, [], 0), (135, .return_, 1, 0, 0, .null, [], 0)]
def AM_X6_init : AMinfo := ((6, yX6_init, cX6_init, 1, none), am_r0_X6_init ++ am_r1_X6_init, (1, 30, true, false), (627, 626, 0, 2, 40, 1))
def am_r0_X6_in : List AMrow := [(0, .iload_n 0, 1, 0, 0, .null, [], 0), (1, .iload_n 1, 1, 1, 0, .null, [], 0), (2, .if_icmp .lt 12, 3, 0, 14, .null, [], 0), (5, .iload_n 0, 1, 0, 0, .null, [], 0), (6, .iload_n 2, 1, 2, 0, .null, [], 0), (7, .if_icmp .gt 7, 3, 0, 14, .null, [], 0), (10, .iconst 1, 1, 0, 0, .int (1), [], 0), (11, .goto 4, 3, 0, 15, .null, [], 0), (14, .iconst 0, 1, 0, 0, .int (0), [], 0), (15, .ireturn, 1, 0, 0, .null, [], 0)]
def AM_X6_in : AMinfo := ((6, yX6_in, cX6_in, 3, (some .boolean)), am_r0_X6_in, (0, 0, false, false), (709, 708, 0, 0, 40, 3))
def am_r0_X6_has : List AMrow := [(0, .iload_n 0, 1, 0, 0, .null, [], 0), (1, .iload_n 1, 1, 1, 0, .null, [], 0), (2, .ishr, 1, 0, 0, .null, [], 0), (3, .iconst 1, 1, 0, 0, .int (1), [], 0), (4, .iand, 1, 0, 0, .null, [], 0), (5, .iconst 1, 1, 0, 0, .int (1), [], 0), (6, .if_icmp .ne 7, 3, 0, 13, .null, [], 0), (9, .iconst 1, 1, 0, 0, .int (1), [], 0), (10, .goto 4, 3, 0, 14, .null, [], 0), (13, .iconst 0, 1, 0, 0, .int (0), [], 0), (14, .ireturn, 1, 0, 0, .null, [], 0)]
def AM_X6_has : AMinfo := ((6, yX6_has, cX6_has, 2, (some .boolean)), am_r0_X6_has, (0, 0, false, false), (734, 733, 0, 0, 40, 2))
def am_r0_X6_bits : List AMrow := [(0, .iconst 0, 1, 0, 0, .int (0), [], 0), (1, .istore_n 1, 1, 1, 0, .null, [], 0), (2, .iconst 0, 1, 0, 0, .int (0), [], 0), (3, .istore_n 2, 1, 2, 0, .null, [], 0), (4, .iload_n 2, 1, 2, 0, .null, [], 0), (5, .bipush 12, 2, 0, 0, .int (12), [], 0), (7, .if_icmp .ge 17, 3, 0, 24, .null, [], 0), (10, .iload_n 1, 1, 1, 0, .null, [], 0), (11, .iload_n 0, 1, 0, 0, .null, [], 0), (12, .iload_n 2, 1, 2, 0, .null, [], 0), (13, .ishr, 1, 0, 0, .null, [], 0), (14, .iconst 1, 1, 0, 0, .int (1), [], 0), (15, .iand, 1, 0, 0, .null, [], 0), (16, .iadd, 1, 0, 0, .null, [], 0), (17, .istore_n 1, 1, 1, 0, .null, [], 0), (18, .iinc 2 1, 3, 2, 0, .int (1), [], 0), (21, .goto (-17), 3, 0, 4, .null, [], 0), (24, .iload_n 1, 1, 1, 0, .null, [], 0), (25, .ireturn, 1, 0, 0, .null, [], 0)]
def AM_X6_bits : AMinfo := ((6, yX6_bits, cX6_bits, 3, (some .int)), am_r0_X6_bits, (0, 0, false, false), (723, 722, 0, 0, 40, 1))
def am_r0_X6_isThere : List AMrow := [(0, .iload_n 1, 1, 1, 0, .null, [], 0), (1, .iconst 0, 1, 0, 0, .int (0), [], 0), (2, .bipush 6, 2, 0, 0, .int (6), [], 0), (4, .invokestatic 57, 3, 96, 3, .int 0, [], 707), (7, .ifCond .eq 18, 3, 0, 25, .null, [], 0), (10, .aload_n 0, 1, 0, 0, .null, [], 0), (11, .getfield 61, 3, 6, 2, .null, [], 631), (14, .iload_n 1, 1, 1, 0, .null, [], 0), (15, .invokestatic 64, 3, 97, 2, .int 0, [], 732), (18, .ifCond .eq 7, 3, 0, 25, .null, [], 0), (21, .iconst 1, 1, 0, 0, .int (1), [], 0), (22, .goto 4, 3, 0, 26, .null, [], 0), (25, .iconst 0, 1, 0, 0, .int (0), [], 0), (26, .ireturn, 1, 0, 0, .null, [], 0)]
def AM_X6_isThere : AMinfo := ((6, yX6_isThere, cX6_isThere, 2, (some .boolean)), am_r0_X6_isThere, (1, 22, false, false), (731, 730, 15, 1, 40, 2))
def am_r0_X6_isLean : List AMrow := [(0, .iload_n 0, 1, 0, 0, .null, [], 0), (1, .bipush (-9), 2, 0, 0, .int (-9), [], 0), (3, .bipush 9, 2, 0, 0, .int (9), [], 0), (5, .invokestatic 57, 3, 96, 3, .int 0, [], 707), (8, .ireturn, 1, 0, 0, .null, [], 0)]
def AM_X6_isLean : AMinfo := ((6, yX6_isLean, cX6_isLean, 1, (some .boolean)), am_r0_X6_isLean, (1, 22, false, false), (712, 711, 0, 0, 40, 1))
def am_r0_X6_doesBear : List AMrow := [(0, .iload_n 1, 1, 1, 0, .null, [], 0), (1, .aload_n 0, 1, 0, 0, .null, [], 0), (2, .getfield 16, 3, 6, 3, .null, [], 632), (5, .iload_n 2, 1, 2, 0, .null, [], 0), (6, .iaload, 1, 0, 0, .null, [], 0), (7, .isub, 1, 0, 0, .null, [], 0), (8, .aload_n 0, 1, 0, 0, .null, [], 0), (9, .getfield 19, 3, 6, 4, .null, [], 633), (12, .ineg, 1, 0, 0, .null, [], 0), (13, .aload_n 0, 1, 0, 0, .null, [], 0), (14, .getfield 19, 3, 6, 4, .null, [], 633), (17, .invokestatic 57, 3, 96, 3, .int 0, [], 707), (20, .ireturn, 1, 0, 0, .null, [], 0)]
def AM_X6_doesBear : AMinfo := ((6, yX6_doesBear, cX6_doesBear, 3, (some .boolean)), am_r0_X6_doesBear, (1, 22, false, false), (789, 788, 22, 1, 40, 3))
def am_r0_X6_creed : List AMrow := [(0, .iload_n 1, 1, 1, 0, .null, [], 0), (1, .iconst 0, 1, 0, 0, .int (0), [], 0), (2, .iconst 2, 1, 0, 0, .int (2), [], 0), (3, .invokestatic 57, 3, 96, 3, .int 0, [], 707), (6, .ifCond .ne 5, 3, 0, 11, .null, [], 0), (9, .iconst (-1), 1, 0, 0, .int (-1), [], 0), (10, .ireturn, 1, 0, 0, .null, [], 0), (11, .iload_n 2, 1, 2, 0, .null, [], 0), (12, .invokestatic 68, 3, 100, 1, .int 0, [], 710), (15, .ifCond .ne 6, 3, 0, 21, .null, [], 0), (18, .bipush (-2), 2, 0, 0, .int (-2), [], 0), (20, .ireturn, 1, 0, 0, .null, [], 0), (21, .aload_n 0, 1, 0, 0, .null, [], 0), (22, .getfield 16, 3, 6, 3, .null, [], 632), (25, .iload_n 1, 1, 1, 0, .null, [], 0), (26, .iaload, 1, 0, 0, .null, [], 0), (27, .istore_n 3, 1, 3, 0, .null, [], 0), (28, .aload_n 0, 1, 0, 0, .null, [], 0), (29, .getfield 16, 3, 6, 3, .null, [], 632), (32, .iload_n 1, 1, 1, 0, .null, [], 0), (33, .iload_n 2, 1, 2, 0, .null, [], 0), (34, .iastore, 1, 0, 0, .null, [], 0), (35, .iload_n 3, 1, 3, 0, .null, [], 0), (36, .bipush 10, 2, 0, 0, .int (10), [], 0), (38, .iadd, 1, 0, 0, .null, [], 0), (39, .ireturn, 1, 0, 0, .null, [], 0)]
def AM_X6_creed : AMinfo := ((6, yX6_creed, cX6_creed, 4, (some .int)), am_r0_X6_creed, (2, 42, false, false), (706, 704, 705, 1, 40, 3))
def am_r0_X6_bear : List AMrow := [(0, .iload_n 1, 1, 1, 0, .null, [], 0), (1, .iconst 0, 1, 0, 0, .int (0), [], 0), (2, .bipush 18, 2, 0, 0, .int (18), [], 0), (4, .invokestatic 57, 3, 96, 3, .int 0, [], 707), (7, .ifCond .ne 6, 3, 0, 13, .null, [], 0), (10, .bipush (-2), 2, 0, 0, .int (-2), [], 0), (12, .ireturn, 1, 0, 0, .null, [], 0), (13, .aload_n 0, 1, 0, 0, .null, [], 0), (14, .getfield 19, 3, 6, 4, .null, [], 633), (17, .istore_n 2, 1, 2, 0, .null, [], 0), (18, .aload_n 0, 1, 0, 0, .null, [], 0), (19, .iload_n 1, 1, 1, 0, .null, [], 0), (20, .putfield 19, 3, 6, 4, .null, [], 633), (23, .iload_n 2, 1, 2, 0, .null, [], 0), (24, .ireturn, 1, 0, 0, .null, [], 0)]
def AM_X6_bear : AMinfo := ((6, yX6_bear, cX6_bear, 3, (some .int)), am_r0_X6_bear, (1, 22, false, false), (716, 714, 715, 1, 40, 2))
def am_r0_X6_one : List AMrow := [(0, .iload_n 1, 1, 1, 0, .null, [], 0), (1, .iconst 0, 1, 0, 0, .int (0), [], 0), (2, .bipush 6, 2, 0, 0, .int (6), [], 0), (4, .invokestatic 57, 3, 96, 3, .int 0, [], 707), (7, .ifCond .ne 5, 3, 0, 12, .null, [], 0), (10, .iconst (-1), 1, 0, 0, .int (-1), [], 0), (11, .ireturn, 1, 0, 0, .null, [], 0), (12, .iload_n 2, 1, 2, 0, .null, [], 0), (13, .iconst 0, 1, 0, 0, .int (0), [], 0), (14, .iconst 2, 1, 0, 0, .int (2), [], 0), (15, .invokestatic 57, 3, 96, 3, .int 0, [], 707), (18, .ifCond .eq 13, 3, 0, 31, .null, [], 0), (21, .iload_n 3, 1, 3, 0, .null, [], 0), (22, .iconst 0, 1, 0, 0, .int (0), [], 0), (23, .bipush 9, 2, 0, 0, .int (9), [], 0), (25, .invokestatic 57, 3, 96, 3, .int 0, [], 707), (28, .ifCond .ne 6, 3, 0, 34, .null, [], 0), (31, .bipush (-2), 2, 0, 0, .int (-2), [], 0), (33, .ireturn, 1, 0, 0, .null, [], 0), (34, .aload_n 0, 1, 0, 0, .null, [], 0), (35, .dup, 1, 0, 0, .null, [], 0), (36, .getfield 61, 3, 6, 2, .null, [], 631), (39, .iconst 1, 1, 0, 0, .int (1), [], 0), (40, .iload_n 1, 1, 1, 0, .null, [], 0), (41, .ishl, 1, 0, 0, .null, [], 0), (42, .ior, 1, 0, 0, .null, [], 0), (43, .putfield 61, 3, 6, 2, .null, [], 631), (46, .aload_n 0, 1, 0, 0, .null, [], 0), (47, .getfield 7, 3, 6, 0, .null, [], 629), (50, .iload_n 1, 1, 1, 0, .null, [], 0), (51, .iload_n 2, 1, 2, 0, .null, [], 0), (52, .iastore, 1, 0, 0, .null, [], 0), (53, .aload_n 0, 1, 0, 0, .null, [], 0), (54, .getfield 7, 3, 6, 0, .null, [], 629), (57, .bipush 7, 2, 0, 0, .int (7), [], 0), (59, .iload_n 1, 1, 1, 0, .null, [], 0), (60, .iadd, 1, 0, 0, .null, [], 0), (61, .iload_n 3, 1, 3, 0, .null, [], 0), (62, .iastore, 1, 0, 0, .null, [], 0), (63, .aload_n 0, 1, 0, 0, .null, [], 0), (64, .getfield 61, 3, 6, 2, .null, [], 631), (67, .invokestatic 72, 3, 98, 1, .int 0, [], 721), (70, .ireturn, 1, 0, 0, .null, [], 0)]
def AM_X6_one : AMinfo := ((6, yX6_one, cX6_one, 4, (some .int)), am_r0_X6_one, (1, 22, false, false), (720, 718, 719, 1, 40, 4))
def am_r0_X6_leave : List AMrow := [(0, .aload_n 0, 1, 0, 0, .null, [], 0), (1, .iload_n 1, 1, 1, 0, .null, [], 0), (2, .invokevirtual 76, 3, 99, 2, .int 0, [], 728), (5, .ifCond .ne 5, 3, 0, 10, .null, [], 0), (8, .iconst (-1), 1, 0, 0, .int (-1), [], 0), (9, .ireturn, 1, 0, 0, .null, [], 0), (10, .aload_n 0, 1, 0, 0, .null, [], 0), (11, .dup, 1, 0, 0, .null, [], 0), (12, .getfield 61, 3, 6, 2, .null, [], 631), (15, .iconst 1, 1, 0, 0, .int (1), [], 0), (16, .iload_n 1, 1, 1, 0, .null, [], 0), (17, .ishl, 1, 0, 0, .null, [], 0), (18, .iconst (-1), 1, 0, 0, .int (-1), [], 0), (19, .ixor, 1, 0, 0, .null, [], 0), (20, .iand, 1, 0, 0, .null, [], 0), (21, .putfield 61, 3, 6, 2, .null, [], 631), (24, .aload_n 0, 1, 0, 0, .null, [], 0), (25, .getfield 61, 3, 6, 2, .null, [], 631), (28, .invokestatic 72, 3, 98, 1, .int 0, [], 721), (31, .ireturn, 1, 0, 0, .null, [], 0)]
def AM_X6_leave : AMinfo := ((6, yX6_leave, cX6_leave, 2, (some .int)), am_r0_X6_leave, (2, 43, false, false), (727, 725, 726, 1, 40, 2))
def am_r0_X6_kin : List AMrow := [(0, .iload_n 1, 1, 1, 0, .null, [], 0), (1, .iconst 0, 1, 0, 0, .int (0), [], 0), (2, .bipush 6, 2, 0, 0, .int (6), [], 0), (4, .invokestatic 57, 3, 96, 3, .int 0, [], 707), (7, .ifCond .eq 18, 3, 0, 25, .null, [], 0), (10, .iload_n 2, 1, 2, 0, .null, [], 0), (11, .iconst 0, 1, 0, 0, .int (0), [], 0), (12, .bipush 6, 2, 0, 0, .int (6), [], 0), (14, .invokestatic 57, 3, 96, 3, .int 0, [], 707), (17, .ifCond .eq 8, 3, 0, 25, .null, [], 0), (20, .iload_n 1, 1, 1, 0, .null, [], 0), (21, .iload_n 2, 1, 2, 0, .null, [], 0), (22, .if_icmp .ne 5, 3, 0, 27, .null, [], 0), (25, .iconst (-1), 1, 0, 0, .int (-1), [], 0), (26, .ireturn, 1, 0, 0, .null, [], 0), (27, .aload_n 0, 1, 0, 0, .null, [], 0), (28, .getfield 23, 3, 6, 5, .null, [], 634), (31, .iload_n 1, 1, 1, 0, .null, [], 0), (32, .dup2, 1, 0, 0, .null, [], 0), (33, .iaload, 1, 0, 0, .null, [], 0), (34, .iconst 1, 1, 0, 0, .int (1), [], 0), (35, .iload_n 2, 1, 2, 0, .null, [], 0), (36, .ishl, 1, 0, 0, .null, [], 0), (37, .iconst (-1), 1, 0, 0, .int (-1), [], 0), (38, .ixor, 1, 0, 0, .null, [], 0), (39, .iand, 1, 0, 0, .null, [], 0), (40, .iastore, 1, 0, 0, .null, [], 0), (41, .aload_n 0, 1, 0, 0, .null, [], 0), (42, .getfield 23, 3, 6, 5, .null, [], 634), (45, .iload_n 2, 1, 2, 0, .null, [], 0), (46, .dup2, 1, 0, 0, .null, [], 0), (47, .iaload, 1, 0, 0, .null, [], 0), (48, .iconst 1, 1, 0, 0, .int (1), [], 0), (49, .iload_n 1, 1, 1, 0, .null, [], 0), (50, .ishl, 1, 0, 0, .null, [], 0), (51, .iconst (-1), 1, 0, 0, .int (-1), [], 0), (52, .ixor, 1, 0, 0, .null, [], 0), (53, .iand, 1, 0, 0, .null, [], 0), (54, .iastore, 1, 0, 0, .null, [], 0), (55, .aload_n 0, 1, 0, 0, .null, [], 0), (56, .getfield 23, 3, 6, 5, .null, [], 634), (59, .iload_n 1, 1, 1, 0, .null, [], 0), (60, .dup2, 1, 0, 0, .null, [], 0), (61, .iaload, 1, 0, 0, .null, [], 0), (62, .iload_n 3, 1, 3, 0, .null, [], 0), (63, .ifCond .eq 9, 3, 0, 72, .null, [], 0), (66, .iconst 1, 1, 0, 0, .int (1), [], 0), (67, .iload_n 2, 1, 2, 0, .null, [], 0), (68, .ishl, 1, 0, 0, .null, [], 0), (69, .goto 4, 3, 0, 73, .null, [], 0), (72, .iconst 0, 1, 0, 0, .int (0), [], 0), (73, .ior, 1, 0, 0, .null, [], 0), (74, .iastore, 1, 0, 0, .null, [], 0), (75, .aload_n 0, 1, 0, 0, .null, [], 0), (76, .getfield 23, 3, 6, 5, .null, [], 634), (79, .iload_n 2, 1, 2, 0, .null, [], 0), (80, .dup2, 1, 0, 0, .null, [], 0), (81, .iaload, 1, 0, 0, .null, [], 0), (82, .iload_n 3, 1, 3, 0, .null, [], 0), (83, .ifCond .eq 9, 3, 0, 92, .null, [], 0)]
def am_r1_X6_kin : List AMrow := [(86, .iconst 1, 1, 0, 0, .int (1), [], 0), (87, .iload_n 1, 1, 1, 0, .null, [], 0), (88, .ishl, 1, 0, 0, .null, [], 0), (89, .goto 4, 3, 0, 93, .null, [], 0), (92, .iconst 0, 1, 0, 0, .int (0), [], 0), (93, .ior, 1, 0, 0, .null, [], 0), (94, .iastore, 1, 0, 0, .null, [], 0), (95, .iconst 0, 1, 0, 0, .int (0), [], 0), (96, .istore 4, 2, 4, 0, .null, [], 0), (98, .iconst 0, 1, 0, 0, .int (0), [], 0), (99, .istore 5, 2, 5, 0, .null, [], 0), (101, .iload 5, 2, 5, 0, .null, [], 0), (103, .bipush 7, 2, 0, 0, .int (7), [], 0), (105, .if_icmp .ge 24, 3, 0, 129, .null, [], 0), (108, .iload 4, 2, 4, 0, .null, [], 0), (110, .aload_n 0, 1, 0, 0, .null, [], 0), (111, .getfield 23, 3, 6, 5, .null, [], 634), (114, .iload 5, 2, 5, 0, .null, [], 0), (116, .iaload, 1, 0, 0, .null, [], 0), (117, .invokestatic 72, 3, 98, 1, .int 0, [], 721), (120, .iadd, 1, 0, 0, .null, [], 0), (121, .istore 4, 2, 4, 0, .null, [], 0), (123, .iinc 5 1, 3, 5, 0, .int (1), [], 0), (126, .goto (-25), 3, 0, 101, .null, [], 0), (129, .iload 4, 2, 4, 0, .null, [], 0), (131, .iconst 2, 1, 0, 0, .int (2), [], 0), (132, .idiv, 1, 0, 0, .null, [], 0), (133, .ireturn, 1, 0, 0, .null, [], 0)]
def AM_X6_kin : AMinfo := ((6, yX6_kin, cX6_kin, 6, (some .int)), am_r0_X6_kin ++ am_r1_X6_kin, (1, 22, false, false), (738, 736, 737, 1, 40, 4))
def am_r0_X6_isPlace : List AMrow := [(0, .iload_n 0, 1, 0, 0, .null, [], 0), (1, .iconst 0, 1, 0, 0, .int (0), [], 0), (2, .bipush 9, 2, 0, 0, .int (9), [], 0), (4, .invokestatic 57, 3, 96, 3, .int 0, [], 707), (7, .ireturn, 1, 0, 0, .null, [], 0)]
def AM_X6_isPlace : AMinfo := ((6, yX6_isPlace, cX6_isPlace, 1, (some .boolean)), am_r0_X6_isPlace, (1, 22, false, false), (745, 744, 0, 0, 40, 1))
def am_r0_X6_stair : List AMrow := [(0, .iload_n 1, 1, 1, 0, .null, [], 0), (1, .iconst 0, 1, 0, 0, .int (0), [], 0), (2, .bipush 11, 2, 0, 0, .int (11), [], 0), (4, .invokestatic 57, 3, 96, 3, .int 0, [], 707), (7, .ifCond .ne 5, 3, 0, 12, .null, [], 0), (10, .iconst (-1), 1, 0, 0, .int (-1), [], 0), (11, .ireturn, 1, 0, 0, .null, [], 0), (12, .iload_n 2, 1, 2, 0, .null, [], 0), (13, .invokestatic 79, 3, 107, 1, .int 0, [], 743), (16, .ifCond .eq 23, 3, 0, 39, .null, [], 0), (19, .iload_n 3, 1, 3, 0, .null, [], 0), (20, .invokestatic 79, 3, 107, 1, .int 0, [], 743), (23, .ifCond .eq 16, 3, 0, 39, .null, [], 0), (26, .iload_n 2, 1, 2, 0, .null, [], 0), (27, .iload_n 3, 1, 3, 0, .null, [], 0), (28, .if_icmp .eq 11, 3, 0, 39, .null, [], 0), (31, .iload 4, 2, 4, 0, .null, [], 0), (33, .invokestatic 68, 3, 100, 1, .int 0, [], 710), (36, .ifCond .ne 6, 3, 0, 42, .null, [], 0), (39, .bipush (-2), 2, 0, 0, .int (-2), [], 0), (41, .ireturn, 1, 0, 0, .null, [], 0), (42, .aload_n 0, 1, 0, 0, .null, [], 0), (43, .dup, 1, 0, 0, .null, [], 0), (44, .getfield 82, 3, 6, 6, .null, [], 635), (47, .iconst 1, 1, 0, 0, .int (1), [], 0), (48, .iload_n 1, 1, 1, 0, .null, [], 0), (49, .ishl, 1, 0, 0, .null, [], 0), (50, .ior, 1, 0, 0, .null, [], 0), (51, .putfield 82, 3, 6, 6, .null, [], 635), (54, .aload_n 0, 1, 0, 0, .null, [], 0), (55, .getfield 26, 3, 6, 7, .null, [], 636), (58, .iload_n 1, 1, 1, 0, .null, [], 0), (59, .iload_n 2, 1, 2, 0, .null, [], 0), (60, .iastore, 1, 0, 0, .null, [], 0), (61, .aload_n 0, 1, 0, 0, .null, [], 0), (62, .getfield 29, 3, 6, 8, .null, [], 637), (65, .iload_n 1, 1, 1, 0, .null, [], 0), (66, .iload_n 3, 1, 3, 0, .null, [], 0), (67, .iastore, 1, 0, 0, .null, [], 0), (68, .aload_n 0, 1, 0, 0, .null, [], 0), (69, .getfield 32, 3, 6, 9, .null, [], 638), (72, .iload_n 1, 1, 1, 0, .null, [], 0), (73, .iload 4, 2, 4, 0, .null, [], 0), (75, .iastore, 1, 0, 0, .null, [], 0), (76, .aload_n 0, 1, 0, 0, .null, [], 0), (77, .getfield 82, 3, 6, 6, .null, [], 635), (80, .invokestatic 72, 3, 98, 1, .int 0, [], 721), (83, .ireturn, 1, 0, 0, .null, [], 0)]
def AM_X6_stair : AMinfo := ((6, yX6_stair, cX6_stair, 5, (some .int)), am_r0_X6_stair, (2, 42, false, false), (742, 740, 741, 1, 40, 5))
def am_r0_X6_say : List AMrow := [(0, .iload_n 1, 1, 1, 0, .null, [], 0), (1, .bipush 33, 2, 0, 0, .int (33), [], 0), (3, .bipush 126, 2, 0, 0, .int (126), [], 0), (5, .invokestatic 57, 3, 96, 3, .int 0, [], 707), (8, .ifCond .ne 6, 3, 0, 14, .null, [], 0), (11, .bipush (-2), 2, 0, 0, .int (-2), [], 0), (13, .ireturn, 1, 0, 0, .null, [], 0), (14, .aload_n 0, 1, 0, 0, .null, [], 0), (15, .getfield 85, 3, 6, 12, .null, [], 641), (18, .bipush 60, 2, 0, 0, .int (60), [], 0), (20, .if_icmp .ne 6, 3, 0, 26, .null, [], 0), (23, .bipush (-4), 2, 0, 0, .int (-4), [], 0), (25, .ireturn, 1, 0, 0, .null, [], 0), (26, .aload_n 0, 1, 0, 0, .null, [], 0), (27, .getfield 38, 3, 6, 13, .null, [], 642), (30, .aload_n 0, 1, 0, 0, .null, [], 0), (31, .getfield 85, 3, 6, 12, .null, [], 641), (34, .iload_n 1, 1, 1, 0, .null, [], 0), (35, .iastore, 1, 0, 0, .null, [], 0), (36, .aload_n 0, 1, 0, 0, .null, [], 0), (37, .dup, 1, 0, 0, .null, [], 0), (38, .getfield 85, 3, 6, 12, .null, [], 641), (41, .iconst 1, 1, 0, 0, .int (1), [], 0), (42, .iadd, 1, 0, 0, .null, [], 0), (43, .putfield 85, 3, 6, 12, .null, [], 641), (46, .aload_n 0, 1, 0, 0, .null, [], 0), (47, .getfield 85, 3, 6, 12, .null, [], 641), (50, .ireturn, 1, 0, 0, .null, [], 0)]
def AM_X6_say : AMinfo := ((6, yX6_say, cX6_say, 2, (some .int)), am_r0_X6_say, (1, 22, false, false), (749, 747, 748, 1, 40, 2))
def am_r0_X6_wipe : List AMrow := [(0, .aload_n 0, 1, 0, 0, .null, [], 0), (1, .getfield 85, 3, 6, 12, .null, [], 641), (4, .istore_n 1, 1, 1, 0, .null, [], 0), (5, .aload_n 0, 1, 0, 0, .null, [], 0), (6, .iconst 0, 1, 0, 0, .int (0), [], 0), (7, .putfield 85, 3, 6, 12, .null, [], 641), (10, .iload_n 1, 1, 1, 0, .null, [], 0), (11, .ireturn, 1, 0, 0, .null, [], 0)]
def AM_X6_wipe : AMinfo := ((6, yX6_wipe, cX6_wipe, 2, (some .int)), am_r0_X6_wipe, (0, 0, false, false), (753, 751, 752, 1, 40, 1))
def am_r0_X6_faultOf : List AMrow := [(0, .iconst 0, 1, 0, 0, .int (0), [], 0), (1, .istore_n 1, 1, 1, 0, .null, [], 0), (2, .iconst 0, 1, 0, 0, .int (0), [], 0), (3, .istore_n 2, 1, 2, 0, .null, [], 0), (4, .iload_n 2, 1, 2, 0, .null, [], 0), (5, .aload_n 0, 1, 0, 0, .null, [], 0), (6, .getfield 85, 3, 6, 12, .null, [], 641), (9, .if_icmp .ge 137, 3, 0, 146, .null, [], 0), (12, .aload_n 0, 1, 0, 0, .null, [], 0), (13, .getfield 38, 3, 6, 13, .null, [], 642), (16, .iload_n 2, 1, 2, 0, .null, [], 0), (17, .iaload, 1, 0, 0, .null, [], 0), (18, .istore_n 3, 1, 3, 0, .null, [], 0), (19, .iload_n 3, 1, 3, 0, .null, [], 0), (20, .bipush 48, 2, 0, 0, .int (48), [], 0), (22, .bipush 55, 2, 0, 0, .int (55), [], 0), (24, .invokestatic 57, 3, 96, 3, .int 0, [], 707), (27, .istore 4, 2, 4, 0, .null, [], 0), (29, .iload_n 1, 1, 1, 0, .null, [], 0), (30, .ifCond .ne 34, 3, 0, 64, .null, [], 0), (33, .iload_n 3, 1, 3, 0, .null, [], 0), (34, .bipush 65, 2, 0, 0, .int (65), [], 0), (36, .bipush 71, 2, 0, 0, .int (71), [], 0), (38, .invokestatic 57, 3, 96, 3, .int 0, [], 707), (41, .ifCond .ne 15, 3, 0, 56, .null, [], 0), (44, .iload_n 3, 1, 3, 0, .null, [], 0), (45, .bipush 42, 2, 0, 0, .int (42), [], 0), (47, .if_icmp .eq 9, 3, 0, 56, .null, [], 0), (50, .iload_n 3, 1, 3, 0, .null, [], 0), (51, .bipush 46, 2, 0, 0, .int (46), [], 0), (53, .if_icmp .ne 7, 3, 0, 60, .null, [], 0), (56, .iconst 1, 1, 0, 0, .int (1), [], 0), (57, .goto 39, 3, 0, 96, .null, [], 0), (60, .iconst 0, 1, 0, 0, .int (0), [], 0), (61, .goto 35, 3, 0, 96, .null, [], 0), (64, .iload 4, 2, 4, 0, .null, [], 0), (66, .ifCond .ne 25, 3, 0, 91, .null, [], 0), (69, .iload_n 1, 1, 1, 0, .null, [], 0), (70, .iconst 1, 1, 0, 0, .int (1), [], 0), (71, .if_icmp .ne 24, 3, 0, 95, .null, [], 0), (74, .iload_n 3, 1, 3, 0, .null, [], 0), (75, .bipush 94, 2, 0, 0, .int (94), [], 0), (77, .if_icmp .eq 14, 3, 0, 91, .null, [], 0), (80, .iload_n 3, 1, 3, 0, .null, [], 0), (81, .bipush 120, 2, 0, 0, .int (120), [], 0), (83, .bipush 122, 2, 0, 0, .int (122), [], 0), (85, .invokestatic 57, 3, 96, 3, .int 0, [], 707), (88, .ifCond .eq 7, 3, 0, 95, .null, [], 0), (91, .iconst 1, 1, 0, 0, .int (1), [], 0), (92, .goto 4, 3, 0, 96, .null, [], 0), (95, .iconst 0, 1, 0, 0, .int (0), [], 0), (96, .istore 5, 2, 5, 0, .null, [], 0), (98, .iload 5, 2, 5, 0, .null, [], 0), (100, .ifCond .ne 5, 3, 0, 105, .null, [], 0), (103, .iload_n 2, 1, 2, 0, .null, [], 0), (104, .ireturn, 1, 0, 0, .null, [], 0), (105, .iload_n 1, 1, 1, 0, .null, [], 0), (106, .ifCond .ne 22, 3, 0, 128, .null, [], 0), (109, .iload_n 3, 1, 3, 0, .null, [], 0), (110, .bipush 65, 2, 0, 0, .int (65), [], 0)]
def am_r1_X6_faultOf : List AMrow := [(112, .bipush 71, 2, 0, 0, .int (71), [], 0), (114, .invokestatic 57, 3, 96, 3, .int 0, [], 707), (117, .ifCond .eq 7, 3, 0, 124, .null, [], 0), (120, .iconst 1, 1, 0, 0, .int (1), [], 0), (121, .goto 18, 3, 0, 139, .null, [], 0), (124, .iconst 0, 1, 0, 0, .int (0), [], 0), (125, .goto 14, 3, 0, 139, .null, [], 0), (128, .iload_n 3, 1, 3, 0, .null, [], 0), (129, .bipush 94, 2, 0, 0, .int (94), [], 0), (131, .if_icmp .ne 7, 3, 0, 138, .null, [], 0), (134, .iconst 2, 1, 0, 0, .int (2), [], 0), (135, .goto 4, 3, 0, 139, .null, [], 0), (138, .iconst 0, 1, 0, 0, .int (0), [], 0), (139, .istore_n 1, 1, 1, 0, .null, [], 0), (140, .iinc 2 1, 3, 2, 0, .int (1), [], 0), (143, .goto (-139), 3, 0, 4, .null, [], 0), (146, .iload_n 1, 1, 1, 0, .null, [], 0), (147, .ifCond .ne 8, 3, 0, 155, .null, [], 0), (150, .bipush (-6), 2, 0, 0, .int (-6), [], 0), (152, .goto 7, 3, 0, 159, .null, [], 0), (155, .aload_n 0, 1, 0, 0, .null, [], 0), (156, .getfield 85, 3, 6, 12, .null, [], 641), (159, .ireturn, 1, 0, 0, .null, [], 0)]
def AM_X6_faultOf : AMinfo := ((6, yX6_faultOf, cX6_faultOf, 6, (some .int)), am_r0_X6_faultOf ++ am_r1_X6_faultOf, (1, 22, false, false), (761, 760, 16, 1, 40, 1))
def am_r0_X6_fault : List AMrow := [(0, .aload_n 0, 1, 0, 0, .null, [], 0), (1, .invokevirtual 88, 3, 111, 1, .int 0, [], 758), (4, .ireturn, 1, 0, 0, .null, [], 0)]
def AM_X6_fault : AMinfo := ((6, yX6_fault, cX6_fault, 1, (some .int)), am_r0_X6_fault, (2, 47, false, false), (757, 755, 756, 1, 40, 1))
def am_r0_X6_asNow : List AMrow := [(0, .iconst 0, 1, 0, 0, .int (0), [], 0), (1, .istore_n 1, 1, 1, 0, .null, [], 0), (2, .iload_n 1, 1, 1, 0, .null, [], 0), (3, .bipush 32, 2, 0, 0, .int (32), [], 0), (5, .if_icmp .ge 21, 3, 0, 26, .null, [], 0), (8, .aload_n 0, 1, 0, 0, .null, [], 0), (9, .getfield 13, 3, 6, 1, .null, [], 630), (12, .iload_n 1, 1, 1, 0, .null, [], 0), (13, .aload_n 0, 1, 0, 0, .null, [], 0), (14, .getfield 7, 3, 6, 0, .null, [], 629), (17, .iload_n 1, 1, 1, 0, .null, [], 0), (18, .iaload, 1, 0, 0, .null, [], 0), (19, .iastore, 1, 0, 0, .null, [], 0), (20, .iinc 1 1, 3, 1, 0, .int (1), [], 0), (23, .goto (-21), 3, 0, 2, .null, [], 0), (26, .aload_n 0, 1, 0, 0, .null, [], 0), (27, .iconst 0, 1, 0, 0, .int (0), [], 0), (28, .putfield 92, 3, 6, 14, .null, [], 643), (31, .aload_n 0, 1, 0, 0, .null, [], 0), (32, .bipush (-6), 2, 0, 0, .int (-6), [], 0), (34, .putfield 95, 3, 6, 15, .null, [], 644), (37, .aload_n 0, 1, 0, 0, .null, [], 0), (38, .bipush (-6), 2, 0, 0, .int (-6), [], 0), (40, .putfield 98, 3, 6, 16, .null, [], 645), (43, .return_, 1, 0, 0, .null, [], 0)]
def AM_X6_asNow : AMinfo := ((6, yX6_asNow, cX6_asNow, 2, none), am_r0_X6_asNow, (0, 0, false, false), (773, 772, 18, 1, 40, 1))
def am_r0_X6_build : List AMrow := [(0, .aload_n 0, 1, 0, 0, .null, [], 0), (1, .iload_n 1, 1, 1, 0, .null, [], 0), (2, .invokevirtual 76, 3, 99, 2, .int 0, [], 728), (5, .ifCond .ne 5, 3, 0, 10, .null, [], 0), (8, .iconst 1, 1, 0, 0, .int (1), [], 0), (9, .ireturn, 1, 0, 0, .null, [], 0), (10, .aload_n 0, 1, 0, 0, .null, [], 0), (11, .getfield 13, 3, 6, 1, .null, [], 630), (14, .bipush 7, 2, 0, 0, .int (7), [], 0), (16, .iload_n 1, 1, 1, 0, .null, [], 0), (17, .iadd, 1, 0, 0, .null, [], 0), (18, .iaload, 1, 0, 0, .null, [], 0), (19, .bipush 9, 2, 0, 0, .int (9), [], 0), (21, .if_icmp .ne 5, 3, 0, 26, .null, [], 0), (24, .iconst 4, 1, 0, 0, .int (4), [], 0), (25, .ireturn, 1, 0, 0, .null, [], 0), (26, .aload_n 0, 1, 0, 0, .null, [], 0), (27, .getfield 13, 3, 6, 1, .null, [], 630), (30, .bipush 14, 2, 0, 0, .int (14), [], 0), (32, .iload_n 2, 1, 2, 0, .null, [], 0), (33, .iadd, 1, 0, 0, .null, [], 0), (34, .aload_n 0, 1, 0, 0, .null, [], 0), (35, .getfield 16, 3, 6, 3, .null, [], 632), (38, .aload_n 0, 1, 0, 0, .null, [], 0), (39, .getfield 13, 3, 6, 1, .null, [], 630), (42, .iload_n 1, 1, 1, 0, .null, [], 0), (43, .iaload, 1, 0, 0, .null, [], 0), (44, .iaload, 1, 0, 0, .null, [], 0), (45, .iastore, 1, 0, 0, .null, [], 0), (46, .aload_n 0, 1, 0, 0, .null, [], 0), (47, .getfield 13, 3, 6, 1, .null, [], 630), (50, .bipush 22, 2, 0, 0, .int (22), [], 0), (52, .iload_n 2, 1, 2, 0, .null, [], 0), (53, .iadd, 1, 0, 0, .null, [], 0), (54, .aload_n 0, 1, 0, 0, .null, [], 0), (55, .getfield 13, 3, 6, 1, .null, [], 630), (58, .iload_n 1, 1, 1, 0, .null, [], 0), (59, .iaload, 1, 0, 0, .null, [], 0), (60, .iastore, 1, 0, 0, .null, [], 0), (61, .aload_n 0, 1, 0, 0, .null, [], 0), (62, .getfield 13, 3, 6, 1, .null, [], 630), (65, .bipush 30, 2, 0, 0, .int (30), [], 0), (67, .dup2, 1, 0, 0, .null, [], 0), (68, .iaload, 1, 0, 0, .null, [], 0), (69, .iconst 1, 1, 0, 0, .int (1), [], 0), (70, .iload_n 2, 1, 2, 0, .null, [], 0), (71, .ishl, 1, 0, 0, .null, [], 0), (72, .ior, 1, 0, 0, .null, [], 0), (73, .iastore, 1, 0, 0, .null, [], 0), (74, .iconst 0, 1, 0, 0, .int (0), [], 0), (75, .ireturn, 1, 0, 0, .null, [], 0)]
def AM_X6_build : AMinfo := ((6, yX6_build, cX6_build, 3, (some .int)), am_r0_X6_build, (2, 43, false, false), (797, 796, 24, 1, 40, 3))
def am_r0_X6_climbUp : List AMrow := [(0, .aload_n 0, 1, 0, 0, .null, [], 0), (1, .iload_n 1, 1, 1, 0, .null, [], 0), (2, .invokevirtual 76, 3, 99, 2, .int 0, [], 728), (5, .ifCond .ne 5, 3, 0, 10, .null, [], 0), (8, .iconst 1, 1, 0, 0, .int (1), [], 0), (9, .ireturn, 1, 0, 0, .null, [], 0), (10, .aload_n 0, 1, 0, 0, .null, [], 0), (11, .getfield 13, 3, 6, 1, .null, [], 630), (14, .bipush 30, 2, 0, 0, .int (30), [], 0), (16, .iaload, 1, 0, 0, .null, [], 0), (17, .iload_n 2, 1, 2, 0, .null, [], 0), (18, .invokestatic 64, 3, 97, 2, .int 0, [], 732), (21, .ifCond .ne 5, 3, 0, 26, .null, [], 0), (24, .iconst 2, 1, 0, 0, .int (2), [], 0), (25, .ireturn, 1, 0, 0, .null, [], 0), (26, .aload_n 0, 1, 0, 0, .null, [], 0), (27, .aload_n 0, 1, 0, 0, .null, [], 0), (28, .getfield 13, 3, 6, 1, .null, [], 630), (31, .bipush 14, 2, 0, 0, .int (14), [], 0), (33, .iload_n 2, 1, 2, 0, .null, [], 0), (34, .iadd, 1, 0, 0, .null, [], 0), (35, .iaload, 1, 0, 0, .null, [], 0), (36, .aload_n 0, 1, 0, 0, .null, [], 0), (37, .getfield 13, 3, 6, 1, .null, [], 630), (40, .iload_n 1, 1, 1, 0, .null, [], 0), (41, .iaload, 1, 0, 0, .null, [], 0), (42, .invokevirtual 101, 3, 101, 3, .int 0, [], 786), (45, .ifCond .eq 34, 3, 0, 79, .null, [], 0), (48, .aload_n 0, 1, 0, 0, .null, [], 0), (49, .getfield 13, 3, 6, 1, .null, [], 630), (52, .bipush 7, 2, 0, 0, .int (7), [], 0), (54, .iload_n 1, 1, 1, 0, .null, [], 0), (55, .iadd, 1, 0, 0, .null, [], 0), (56, .dup2, 1, 0, 0, .null, [], 0), (57, .iaload, 1, 0, 0, .null, [], 0), (58, .aload_n 0, 1, 0, 0, .null, [], 0), (59, .getfield 13, 3, 6, 1, .null, [], 630), (62, .bipush 7, 2, 0, 0, .int (7), [], 0), (64, .iload_n 1, 1, 1, 0, .null, [], 0), (65, .iadd, 1, 0, 0, .null, [], 0), (66, .iaload, 1, 0, 0, .null, [], 0), (67, .ifCond .le 7, 3, 0, 74, .null, [], 0), (70, .iconst 1, 1, 0, 0, .int (1), [], 0), (71, .goto 4, 3, 0, 75, .null, [], 0), (74, .iconst 0, 1, 0, 0, .int (0), [], 0), (75, .isub, 1, 0, 0, .null, [], 0), (76, .iastore, 1, 0, 0, .null, [], 0), (77, .iconst 0, 1, 0, 0, .int (0), [], 0), (78, .ireturn, 1, 0, 0, .null, [], 0), (79, .aload_n 0, 1, 0, 0, .null, [], 0), (80, .aload_n 0, 1, 0, 0, .null, [], 0), (81, .getfield 92, 3, 6, 14, .null, [], 643), (84, .ifCond .ne 7, 3, 0, 91, .null, [], 0), (87, .iload_n 1, 1, 1, 0, .null, [], 0), (88, .goto 7, 3, 0, 95, .null, [], 0), (91, .aload_n 0, 1, 0, 0, .null, [], 0), (92, .getfield 98, 3, 6, 16, .null, [], 645), (95, .putfield 98, 3, 6, 16, .null, [], 645), (98, .aload_n 0, 1, 0, 0, .null, [], 0), (99, .dup, 1, 0, 0, .null, [], 0)]
def am_r1_X6_climbUp : List AMrow := [(100, .getfield 92, 3, 6, 14, .null, [], 643), (103, .iconst 1, 1, 0, 0, .int (1), [], 0), (104, .iadd, 1, 0, 0, .null, [], 0), (105, .putfield 92, 3, 6, 14, .null, [], 643), (108, .aload_n 0, 1, 0, 0, .null, [], 0), (109, .getfield 13, 3, 6, 1, .null, [], 630), (112, .bipush 7, 2, 0, 0, .int (7), [], 0), (114, .iload_n 1, 1, 1, 0, .null, [], 0), (115, .iadd, 1, 0, 0, .null, [], 0), (116, .dup2, 1, 0, 0, .null, [], 0), (117, .iaload, 1, 0, 0, .null, [], 0), (118, .iconst 3, 1, 0, 0, .int (3), [], 0), (119, .iadd, 1, 0, 0, .null, [], 0), (120, .iastore, 1, 0, 0, .null, [], 0), (121, .aload_n 0, 1, 0, 0, .null, [], 0), (122, .getfield 13, 3, 6, 1, .null, [], 630), (125, .bipush 7, 2, 0, 0, .int (7), [], 0), (127, .iload_n 1, 1, 1, 0, .null, [], 0), (128, .iadd, 1, 0, 0, .null, [], 0), (129, .iaload, 1, 0, 0, .null, [], 0), (130, .bipush 9, 2, 0, 0, .int (9), [], 0), (132, .if_icmp .le 28, 3, 0, 160, .null, [], 0), (135, .aload_n 0, 1, 0, 0, .null, [], 0), (136, .getfield 13, 3, 6, 1, .null, [], 630), (139, .iload_n 1, 1, 1, 0, .null, [], 0), (140, .aload_n 0, 1, 0, 0, .null, [], 0), (141, .getfield 13, 3, 6, 1, .null, [], 630), (144, .bipush 22, 2, 0, 0, .int (22), [], 0), (146, .iload_n 2, 1, 2, 0, .null, [], 0), (147, .iadd, 1, 0, 0, .null, [], 0), (148, .iaload, 1, 0, 0, .null, [], 0), (149, .iastore, 1, 0, 0, .null, [], 0), (150, .aload_n 0, 1, 0, 0, .null, [], 0), (151, .getfield 13, 3, 6, 1, .null, [], 630), (154, .bipush 7, 2, 0, 0, .int (7), [], 0), (156, .iload_n 1, 1, 1, 0, .null, [], 0), (157, .iadd, 1, 0, 0, .null, [], 0), (158, .iconst 0, 1, 0, 0, .int (0), [], 0), (159, .iastore, 1, 0, 0, .null, [], 0), (160, .iconst 0, 1, 0, 0, .int (0), [], 0), (161, .ireturn, 1, 0, 0, .null, [], 0)]
def AM_X6_climbUp : AMinfo := ((6, yX6_climbUp, cX6_climbUp, 3, (some .int)), am_r0_X6_climbUp ++ am_r1_X6_climbUp, (2, 44, false, false), (785, 784, 21, 1, 40, 3))
def am_r0_X6_convert : List AMrow := [(0, .aload_n 0, 1, 0, 0, .null, [], 0), (1, .iload_n 1, 1, 1, 0, .null, [], 0), (2, .invokevirtual 76, 3, 99, 2, .int 0, [], 728), (5, .ifCond .ne 5, 3, 0, 10, .null, [], 0), (8, .iconst 1, 1, 0, 0, .int (1), [], 0), (9, .ireturn, 1, 0, 0, .null, [], 0), (10, .aload_n 0, 1, 0, 0, .null, [], 0), (11, .getfield 13, 3, 6, 1, .null, [], 630), (14, .iload_n 1, 1, 1, 0, .null, [], 0), (15, .iaload, 1, 0, 0, .null, [], 0), (16, .iload_n 2, 1, 2, 0, .null, [], 0), (17, .if_icmp .ne 5, 3, 0, 22, .null, [], 0), (20, .iconst 3, 1, 0, 0, .int (3), [], 0), (21, .ireturn, 1, 0, 0, .null, [], 0), (22, .aload_n 0, 1, 0, 0, .null, [], 0), (23, .getfield 13, 3, 6, 1, .null, [], 630), (26, .iload_n 1, 1, 1, 0, .null, [], 0), (27, .iload_n 2, 1, 2, 0, .null, [], 0), (28, .iastore, 1, 0, 0, .null, [], 0), (29, .aload_n 0, 1, 0, 0, .null, [], 0), (30, .getfield 13, 3, 6, 1, .null, [], 630), (33, .bipush 7, 2, 0, 0, .int (7), [], 0), (35, .iload_n 1, 1, 1, 0, .null, [], 0), (36, .iadd, 1, 0, 0, .null, [], 0), (37, .iconst 5, 1, 0, 0, .int (5), [], 0), (38, .iastore, 1, 0, 0, .null, [], 0), (39, .iconst 0, 1, 0, 0, .int (0), [], 0), (40, .ireturn, 1, 0, 0, .null, [], 0)]
def AM_X6_convert : AMinfo := ((6, yX6_convert, cX6_convert, 3, (some .int)), am_r0_X6_convert, (2, 43, false, false), (793, 792, 23, 1, 40, 3))
def am_r0_X6_quake : List AMrow := [(0, .iconst 0, 1, 0, 0, .int (0), [], 0), (1, .istore_n 1, 1, 1, 0, .null, [], 0), (2, .iload_n 1, 1, 1, 0, .null, [], 0), (3, .bipush 8, 2, 0, 0, .int (8), [], 0), (5, .if_icmp .ge 52, 3, 0, 57, .null, [], 0), (8, .aload_n 0, 1, 0, 0, .null, [], 0), (9, .getfield 13, 3, 6, 1, .null, [], 630), (12, .bipush 30, 2, 0, 0, .int (30), [], 0), (14, .dup2, 1, 0, 0, .null, [], 0), (15, .iaload, 1, 0, 0, .null, [], 0), (16, .aload_n 0, 1, 0, 0, .null, [], 0), (17, .getfield 13, 3, 6, 1, .null, [], 630), (20, .bipush 14, 2, 0, 0, .int (14), [], 0), (22, .iload_n 1, 1, 1, 0, .null, [], 0), (23, .iadd, 1, 0, 0, .null, [], 0), (24, .iaload, 1, 0, 0, .null, [], 0), (25, .aload_n 0, 1, 0, 0, .null, [], 0), (26, .getfield 19, 3, 6, 4, .null, [], 633), (29, .ineg, 1, 0, 0, .null, [], 0), (30, .aload_n 0, 1, 0, 0, .null, [], 0), (31, .getfield 19, 3, 6, 4, .null, [], 633), (34, .invokestatic 57, 3, 96, 3, .int 0, [], 707), (37, .ifCond .eq 7, 3, 0, 44, .null, [], 0), (40, .iconst (-1), 1, 0, 0, .int (-1), [], 0), (41, .goto 8, 3, 0, 49, .null, [], 0), (44, .iconst 1, 1, 0, 0, .int (1), [], 0), (45, .iload_n 1, 1, 1, 0, .null, [], 0), (46, .ishl, 1, 0, 0, .null, [], 0), (47, .iconst (-1), 1, 0, 0, .int (-1), [], 0), (48, .ixor, 1, 0, 0, .null, [], 0), (49, .iand, 1, 0, 0, .null, [], 0), (50, .iastore, 1, 0, 0, .null, [], 0), (51, .iinc 1 1, 3, 1, 0, .int (1), [], 0), (54, .goto (-52), 3, 0, 2, .null, [], 0), (57, .return_, 1, 0, 0, .null, [], 0)]
def AM_X6_quake : AMinfo := ((6, yX6_quake, cX6_quake, 2, none), am_r0_X6_quake, (1, 22, false, false), (781, 780, 20, 1, 40, 1))
def am_r0_X6_endYear : List AMrow := [(0, .aload_n 0, 1, 0, 0, .null, [], 0), (1, .getfield 13, 3, 6, 1, .null, [], 630), (4, .bipush 31, 2, 0, 0, .int (31), [], 0), (6, .iaload, 1, 0, 0, .null, [], 0), (7, .bipush 99, 2, 0, 0, .int (99), [], 0), (9, .if_icmp .ne 5, 3, 0, 14, .null, [], 0), (12, .iconst 5, 1, 0, 0, .int (5), [], 0), (13, .ireturn, 1, 0, 0, .null, [], 0), (14, .aload_n 0, 1, 0, 0, .null, [], 0), (15, .getfield 13, 3, 6, 1, .null, [], 630), (18, .bipush 31, 2, 0, 0, .int (31), [], 0), (20, .dup2, 1, 0, 0, .null, [], 0), (21, .iaload, 1, 0, 0, .null, [], 0), (22, .iconst 1, 1, 0, 0, .int (1), [], 0), (23, .iadd, 1, 0, 0, .null, [], 0), (24, .iastore, 1, 0, 0, .null, [], 0), (25, .iconst 0, 1, 0, 0, .int (0), [], 0), (26, .ireturn, 1, 0, 0, .null, [], 0)]
def AM_X6_endYear : AMinfo := ((6, yX6_endYear, cX6_endYear, 1, (some .int)), am_r0_X6_endYear, (0, 0, false, false), (777, 776, 19, 1, 40, 1))
def am_r0_X6_goYears : List AMrow := [(0, .aload_n 0, 1, 0, 0, .null, [], 0), (1, .invokevirtual 104, 3, 113, 1, .int 0, [], 770), (4, .aload_n 0, 1, 0, 0, .null, [], 0), (5, .iconst 0, 1, 0, 0, .int (0), [], 0), (6, .putfield 107, 3, 6, 18, .null, [], 647), (9, .iconst 0, 1, 0, 0, .int (0), [], 0), (10, .istore_n 1, 1, 1, 0, .null, [], 0), (11, .iload_n 1, 1, 1, 0, .null, [], 0), (12, .aload_n 0, 1, 0, 0, .null, [], 0), (13, .getfield 85, 3, 6, 12, .null, [], 641), (16, .if_icmp .ge 193, 3, 0, 209, .null, [], 0), (19, .aload_n 0, 1, 0, 0, .null, [], 0), (20, .getfield 38, 3, 6, 13, .null, [], 642), (23, .iload_n 1, 1, 1, 0, .null, [], 0), (24, .iaload, 1, 0, 0, .null, [], 0), (25, .istore_n 2, 1, 2, 0, .null, [], 0), (26, .aload_n 0, 1, 0, 0, .null, [], 0), (27, .getfield 92, 3, 6, 14, .null, [], 643), (30, .istore_n 3, 1, 3, 0, .null, [], 0), (31, .aload_n 0, 1, 0, 0, .null, [], 0), (32, .iconst 0, 1, 0, 0, .int (0), [], 0), (33, .putfield 110, 3, 6, 17, .null, [], 646), (36, .iload_n 2, 1, 2, 0, .null, [], 0), (37, .bipush 46, 2, 0, 0, .int (46), [], 0), (39, .if_icmp .ne 14, 3, 0, 53, .null, [], 0), (42, .aload_n 0, 1, 0, 0, .null, [], 0), (43, .aload_n 0, 1, 0, 0, .null, [], 0), (44, .invokevirtual 113, 3, 118, 1, .int 0, [], 774), (47, .putfield 110, 3, 6, 17, .null, [], 646), (50, .goto 101, 3, 0, 151, .null, [], 0), (53, .iload_n 2, 1, 2, 0, .null, [], 0), (54, .bipush 42, 2, 0, 0, .int (42), [], 0), (56, .if_icmp .ne 10, 3, 0, 66, .null, [], 0), (59, .aload_n 0, 1, 0, 0, .null, [], 0), (60, .invokevirtual 116, 3, 117, 1, .int 0, [], 778), (63, .goto 88, 3, 0, 151, .null, [], 0), (66, .iinc 1 1, 3, 1, 0, .int (1), [], 0), (69, .aload_n 0, 1, 0, 0, .null, [], 0), (70, .getfield 38, 3, 6, 13, .null, [], 642), (73, .iload_n 1, 1, 1, 0, .null, [], 0), (74, .iaload, 1, 0, 0, .null, [], 0), (75, .istore 4, 2, 4, 0, .null, [], 0), (77, .iload 4, 2, 4, 0, .null, [], 0), (79, .bipush 94, 2, 0, 0, .int (94), [], 0), (81, .if_icmp .ne 30, 3, 0, 111, .null, [], 0), (84, .iinc 1 1, 3, 1, 0, .int (1), [], 0), (87, .aload_n 0, 1, 0, 0, .null, [], 0), (88, .aload_n 0, 1, 0, 0, .null, [], 0), (89, .iload_n 2, 1, 2, 0, .null, [], 0), (90, .bipush 65, 2, 0, 0, .int (65), [], 0), (92, .isub, 1, 0, 0, .null, [], 0), (93, .aload_n 0, 1, 0, 0, .null, [], 0), (94, .getfield 38, 3, 6, 13, .null, [], 642), (97, .iload_n 1, 1, 1, 0, .null, [], 0), (98, .iaload, 1, 0, 0, .null, [], 0), (99, .bipush 48, 2, 0, 0, .int (48), [], 0), (101, .isub, 1, 0, 0, .null, [], 0), (102, .invokevirtual 119, 3, 115, 3, .int 0, [], 782), (105, .putfield 110, 3, 6, 17, .null, [], 646), (108, .goto 43, 3, 0, 151, .null, [], 0)]
def am_r1_X6_goYears : List AMrow := [(111, .aload_n 0, 1, 0, 0, .null, [], 0), (112, .iload 4, 2, 4, 0, .null, [], 0), (114, .bipush 120, 2, 0, 0, .int (120), [], 0), (116, .if_icmp .lt 19, 3, 0, 135, .null, [], 0), (119, .aload_n 0, 1, 0, 0, .null, [], 0), (120, .iload_n 2, 1, 2, 0, .null, [], 0), (121, .bipush 65, 2, 0, 0, .int (65), [], 0), (123, .isub, 1, 0, 0, .null, [], 0), (124, .iload 4, 2, 4, 0, .null, [], 0), (126, .bipush 120, 2, 0, 0, .int (120), [], 0), (128, .isub, 1, 0, 0, .null, [], 0), (129, .invokevirtual 123, 3, 116, 3, .int 0, [], 790), (132, .goto 16, 3, 0, 148, .null, [], 0), (135, .aload_n 0, 1, 0, 0, .null, [], 0), (136, .iload_n 2, 1, 2, 0, .null, [], 0), (137, .bipush 65, 2, 0, 0, .int (65), [], 0), (139, .isub, 1, 0, 0, .null, [], 0), (140, .iload 4, 2, 4, 0, .null, [], 0), (142, .bipush 48, 2, 0, 0, .int (48), [], 0), (144, .isub, 1, 0, 0, .null, [], 0), (145, .invokevirtual 126, 3, 114, 3, .int 0, [], 794), (148, .putfield 110, 3, 6, 17, .null, [], 646), (151, .aload_n 0, 1, 0, 0, .null, [], 0), (152, .getfield 110, 3, 6, 17, .null, [], 646), (155, .ifCond .le 8, 3, 0, 163, .null, [], 0), (158, .aload_n 0, 1, 0, 0, .null, [], 0), (159, .getfield 107, 3, 6, 18, .null, [], 647), (162, .ireturn, 1, 0, 0, .null, [], 0), (163, .aload_n 0, 1, 0, 0, .null, [], 0), (164, .aload_n 0, 1, 0, 0, .null, [], 0), (165, .getfield 95, 3, 6, 15, .null, [], 644), (168, .ifCond .ge 18, 3, 0, 186, .null, [], 0), (171, .aload_n 0, 1, 0, 0, .null, [], 0), (172, .getfield 92, 3, 6, 14, .null, [], 643), (175, .iload_n 3, 1, 3, 0, .null, [], 0), (176, .if_icmp .le 10, 3, 0, 186, .null, [], 0), (179, .aload_n 0, 1, 0, 0, .null, [], 0), (180, .getfield 107, 3, 6, 18, .null, [], 647), (183, .goto 7, 3, 0, 190, .null, [], 0), (186, .aload_n 0, 1, 0, 0, .null, [], 0), (187, .getfield 95, 3, 6, 15, .null, [], 644), (190, .putfield 95, 3, 6, 15, .null, [], 644), (193, .iinc 1 1, 3, 1, 0, .int (1), [], 0), (196, .aload_n 0, 1, 0, 0, .null, [], 0), (197, .dup, 1, 0, 0, .null, [], 0), (198, .getfield 107, 3, 6, 18, .null, [], 647), (201, .iconst 1, 1, 0, 0, .int (1), [], 0), (202, .iadd, 1, 0, 0, .null, [], 0), (203, .putfield 107, 3, 6, 18, .null, [], 647), (206, .goto (-195), 3, 0, 11, .null, [], 0), (209, .bipush (-6), 2, 0, 0, .int (-6), [], 0), (211, .ireturn, 1, 0, 0, .null, [], 0)]
def AM_X6_goYears : AMinfo := ((6, yX6_goYears, cX6_goYears, 5, (some .int)), am_r0_X6_goYears ++ am_r1_X6_goYears, (3, 66, false, false), (769, 768, 17, 1, 40, 1))
def am_r0_X6_judge : List AMrow := [(0, .iload_n 1, 1, 1, 0, .null, [], 0), (1, .iconst 0, 1, 0, 0, .int (0), [], 0), (2, .iconst 1, 1, 0, 0, .int (1), [], 0), (3, .invokestatic 57, 3, 96, 3, .int 0, [], 707), (6, .ifCond .ne 6, 3, 0, 12, .null, [], 0), (9, .bipush (-2), 2, 0, 0, .int (-2), [], 0), (11, .ireturn, 1, 0, 0, .null, [], 0), (12, .aload_n 0, 1, 0, 0, .null, [], 0), (13, .invokevirtual 88, 3, 111, 1, .int 0, [], 758), (16, .ifCond .lt 6, 3, 0, 22, .null, [], 0), (19, .bipush (-5), 2, 0, 0, .int (-5), [], 0), (21, .ireturn, 1, 0, 0, .null, [], 0), (22, .aload_n 0, 1, 0, 0, .null, [], 0), (23, .invokevirtual 129, 3, 119, 1, .int 0, [], 766), (26, .istore_n 2, 1, 2, 0, .null, [], 0), (27, .iload_n 2, 1, 2, 0, .null, [], 0), (28, .ifCond .lt 7, 3, 0, 35, .null, [], 0), (31, .iload_n 1, 1, 1, 0, .null, [], 0), (32, .ifCond .ne 7, 3, 0, 39, .null, [], 0), (35, .iload_n 2, 1, 2, 0, .null, [], 0), (36, .goto 7, 3, 0, 43, .null, [], 0), (39, .aload_n 0, 1, 0, 0, .null, [], 0), (40, .getfield 110, 3, 6, 17, .null, [], 646), (43, .ireturn, 1, 0, 0, .null, [], 0)]
def AM_X6_judge : AMinfo := ((6, yX6_judge, cX6_judge, 3, (some .int)), am_r0_X6_judge, (4, 90, false, false), (765, 763, 764, 1, 40, 2))
def am_r0_X6_barOfYears : List AMrow := [(0, .aload_n 0, 1, 0, 0, .null, [], 0), (1, .invokevirtual 88, 3, 111, 1, .int 0, [], 758), (4, .ifCond .ge 10, 3, 0, 14, .null, [], 0), (7, .aload_n 0, 1, 0, 0, .null, [], 0), (8, .invokevirtual 129, 3, 119, 1, .int 0, [], 766), (11, .ifCond .lt 8, 3, 0, 19, .null, [], 0), (14, .bipush (-5), 2, 0, 0, .int (-5), [], 0), (16, .goto 4, 3, 0, 20, .null, [], 0), (19, .iconst 0, 1, 0, 0, .int (0), [], 0), (20, .ireturn, 1, 0, 0, .null, [], 0)]
def AM_X6_barOfYears : AMinfo := ((6, yX6_barOfYears, cX6_barOfYears, 1, (some .int)), am_r0_X6_barOfYears, (4, 90, false, false), (805, 804, 25, 1, 40, 1))
def am_r0_X6_done : List AMrow := [(0, .aload_n 0, 1, 0, 0, .null, [], 0), (1, .invokevirtual 132, 3, 121, 1, .int 0, [], 802), (4, .ifCond .ge 6, 3, 0, 10, .null, [], 0), (7, .bipush (-5), 2, 0, 0, .int (-5), [], 0), (9, .ireturn, 1, 0, 0, .null, [], 0), (10, .iconst 0, 1, 0, 0, .int (0), [], 0), (11, .istore_n 1, 1, 1, 0, .null, [], 0), (12, .iload_n 1, 1, 1, 0, .null, [], 0), (13, .bipush 32, 2, 0, 0, .int (32), [], 0), (15, .if_icmp .ge 21, 3, 0, 36, .null, [], 0), (18, .aload_n 0, 1, 0, 0, .null, [], 0), (19, .getfield 7, 3, 6, 0, .null, [], 629), (22, .iload_n 1, 1, 1, 0, .null, [], 0), (23, .aload_n 0, 1, 0, 0, .null, [], 0), (24, .getfield 13, 3, 6, 1, .null, [], 630), (27, .iload_n 1, 1, 1, 0, .null, [], 0), (28, .iaload, 1, 0, 0, .null, [], 0), (29, .iastore, 1, 0, 0, .null, [], 0), (30, .iinc 1 1, 3, 1, 0, .int (1), [], 0), (33, .goto (-21), 3, 0, 12, .null, [], 0), (36, .aload_n 0, 1, 0, 0, .null, [], 0), (37, .iconst 0, 1, 0, 0, .int (0), [], 0), (38, .putfield 85, 3, 6, 12, .null, [], 641), (41, .aload_n 0, 1, 0, 0, .null, [], 0), (42, .getfield 107, 3, 6, 18, .null, [], 647), (45, .ireturn, 1, 0, 0, .null, [], 0)]
def AM_X6_done : AMinfo := ((6, yX6_done, cX6_done, 2, (some .int)), am_r0_X6_done, (5, 110, false, false), (801, 799, 800, 1, 40, 1))
def am_r0_X6_behind : List AMrow := [(0, .aload_n 0, 1, 0, 0, .null, [], 0), (1, .iload_n 1, 1, 1, 0, .null, [], 0), (2, .invokevirtual 76, 3, 99, 2, .int 0, [], 728), (5, .ifCond .ne 5, 3, 0, 10, .null, [], 0), (8, .iconst (-1), 1, 0, 0, .int (-1), [], 0), (9, .ireturn, 1, 0, 0, .null, [], 0), (10, .iload_n 2, 1, 2, 0, .null, [], 0), (11, .iconst 0, 1, 0, 0, .int (0), [], 0), (12, .iconst 1, 1, 0, 0, .int (1), [], 0), (13, .invokestatic 57, 3, 96, 3, .int 0, [], 707), (16, .ifCond .ne 6, 3, 0, 22, .null, [], 0), (19, .bipush (-2), 2, 0, 0, .int (-2), [], 0), (21, .ireturn, 1, 0, 0, .null, [], 0), (22, .aload_n 0, 1, 0, 0, .null, [], 0), (23, .invokevirtual 132, 3, 121, 1, .int 0, [], 802), (26, .ifCond .ge 8, 3, 0, 34, .null, [], 0), (29, .bipush (-5), 2, 0, 0, .int (-5), [], 0), (31, .goto 14, 3, 0, 45, .null, [], 0), (34, .aload_n 0, 1, 0, 0, .null, [], 0), (35, .getfield 13, 3, 6, 1, .null, [], 630), (38, .bipush 7, 2, 0, 0, .int (7), [], 0), (40, .iload_n 2, 1, 2, 0, .null, [], 0), (41, .imul, 1, 0, 0, .null, [], 0), (42, .iload_n 1, 1, 1, 0, .null, [], 0), (43, .iadd, 1, 0, 0, .null, [], 0), (44, .iaload, 1, 0, 0, .null, [], 0), (45, .ireturn, 1, 0, 0, .null, [], 0)]
def AM_X6_behind : AMinfo := ((6, yX6_behind, cX6_behind, 3, (some .int)), am_r0_X6_behind, (5, 110, false, false), (809, 807, 808, 1, 40, 3))
def am_r0_X6_wall : List AMrow := [(0, .iload_n 1, 1, 1, 0, .null, [], 0), (1, .iconst 0, 1, 0, 0, .int (0), [], 0), (2, .bipush 7, 2, 0, 0, .int (7), [], 0), (4, .invokestatic 57, 3, 96, 3, .int 0, [], 707), (7, .ifCond .ne 5, 3, 0, 12, .null, [], 0), (10, .iconst (-1), 1, 0, 0, .int (-1), [], 0), (11, .ireturn, 1, 0, 0, .null, [], 0), (12, .iload_n 2, 1, 2, 0, .null, [], 0), (13, .iconst 0, 1, 0, 0, .int (0), [], 0), (14, .iconst 1, 1, 0, 0, .int (1), [], 0), (15, .invokestatic 57, 3, 96, 3, .int 0, [], 707), (18, .ifCond .ne 6, 3, 0, 24, .null, [], 0), (21, .bipush (-2), 2, 0, 0, .int (-2), [], 0), (23, .ireturn, 1, 0, 0, .null, [], 0), (24, .aload_n 0, 1, 0, 0, .null, [], 0), (25, .invokevirtual 132, 3, 121, 1, .int 0, [], 802), (28, .ifCond .ge 6, 3, 0, 34, .null, [], 0), (31, .bipush (-5), 2, 0, 0, .int (-5), [], 0), (33, .ireturn, 1, 0, 0, .null, [], 0), (34, .aload_n 0, 1, 0, 0, .null, [], 0), (35, .getfield 13, 3, 6, 1, .null, [], 630), (38, .bipush 30, 2, 0, 0, .int (30), [], 0), (40, .iaload, 1, 0, 0, .null, [], 0), (41, .iload_n 1, 1, 1, 0, .null, [], 0), (42, .invokestatic 64, 3, 97, 2, .int 0, [], 732), (45, .ifCond .ne 8, 3, 0, 53, .null, [], 0), (48, .bipush (-6), 2, 0, 0, .int (-6), [], 0), (50, .goto 31, 3, 0, 81, .null, [], 0), (53, .iload_n 2, 1, 2, 0, .null, [], 0), (54, .ifCond .ne 18, 3, 0, 72, .null, [], 0), (57, .aload_n 0, 1, 0, 0, .null, [], 0), (58, .getfield 13, 3, 6, 1, .null, [], 630), (61, .bipush 14, 2, 0, 0, .int (14), [], 0), (63, .iload_n 1, 1, 1, 0, .null, [], 0), (64, .iadd, 1, 0, 0, .null, [], 0), (65, .iaload, 1, 0, 0, .null, [], 0), (66, .bipush 10, 2, 0, 0, .int (10), [], 0), (68, .iadd, 1, 0, 0, .null, [], 0), (69, .goto 12, 3, 0, 81, .null, [], 0), (72, .aload_n 0, 1, 0, 0, .null, [], 0), (73, .getfield 13, 3, 6, 1, .null, [], 630), (76, .bipush 22, 2, 0, 0, .int (22), [], 0), (78, .iload_n 1, 1, 1, 0, .null, [], 0), (79, .iadd, 1, 0, 0, .null, [], 0), (80, .iaload, 1, 0, 0, .null, [], 0), (81, .ireturn, 1, 0, 0, .null, [], 0)]
def AM_X6_wall : AMinfo := ((6, yX6_wall, cX6_wall, 3, (some .int)), am_r0_X6_wall, (5, 110, false, false), (813, 811, 812, 1, 40, 3))
def am_r0_X6_fell : List AMrow := [(0, .iload_n 1, 1, 1, 0, .null, [], 0), (1, .iconst 0, 1, 0, 0, .int (0), [], 0), (2, .iconst 3, 1, 0, 0, .int (3), [], 0), (3, .invokestatic 57, 3, 96, 3, .int 0, [], 707), (6, .ifCond .ne 6, 3, 0, 12, .null, [], 0), (9, .bipush (-2), 2, 0, 0, .int (-2), [], 0), (11, .ireturn, 1, 0, 0, .null, [], 0), (12, .aload_n 0, 1, 0, 0, .null, [], 0), (13, .invokevirtual 132, 3, 121, 1, .int 0, [], 802), (16, .ifCond .ge 6, 3, 0, 22, .null, [], 0), (19, .bipush (-5), 2, 0, 0, .int (-5), [], 0), (21, .ireturn, 1, 0, 0, .null, [], 0), (22, .iload_n 1, 1, 1, 0, .null, [], 0), (23, .ifCond .ne 10, 3, 0, 33, .null, [], 0), (26, .aload_n 0, 1, 0, 0, .null, [], 0), (27, .getfield 95, 3, 6, 15, .null, [], 644), (30, .goto 34, 3, 0, 64, .null, [], 0), (33, .iload_n 1, 1, 1, 0, .null, [], 0), (34, .iconst 1, 1, 0, 0, .int (1), [], 0), (35, .if_icmp .ne 10, 3, 0, 45, .null, [], 0), (38, .aload_n 0, 1, 0, 0, .null, [], 0), (39, .getfield 98, 3, 6, 16, .null, [], 645), (42, .goto 22, 3, 0, 64, .null, [], 0), (45, .iload_n 1, 1, 1, 0, .null, [], 0), (46, .iconst 2, 1, 0, 0, .int (2), [], 0), (47, .if_icmp .ne 10, 3, 0, 57, .null, [], 0), (50, .aload_n 0, 1, 0, 0, .null, [], 0), (51, .getfield 92, 3, 6, 14, .null, [], 643), (54, .goto 10, 3, 0, 64, .null, [], 0), (57, .aload_n 0, 1, 0, 0, .null, [], 0), (58, .getfield 13, 3, 6, 1, .null, [], 630), (61, .bipush 31, 2, 0, 0, .int (31), [], 0), (63, .iaload, 1, 0, 0, .null, [], 0), (64, .ireturn, 1, 0, 0, .null, [], 0)]
def AM_X6_fell : AMinfo := ((6, yX6_fell, cX6_fell, 2, (some .int)), am_r0_X6_fell, (5, 110, false, false), (817, 815, 816, 1, 40, 2))
def am_r0_X6_bears : List AMrow := [(0, .aload_n 0, 1, 0, 0, .null, [], 0), (1, .iload_n 1, 1, 1, 0, .null, [], 0), (2, .invokevirtual 76, 3, 99, 2, .int 0, [], 728), (5, .ifCond .ne 5, 3, 0, 10, .null, [], 0), (8, .iconst (-1), 1, 0, 0, .int (-1), [], 0), (9, .ireturn, 1, 0, 0, .null, [], 0), (10, .iconst 0, 1, 0, 0, .int (0), [], 0), (11, .istore_n 2, 1, 2, 0, .null, [], 0), (12, .iconst 0, 1, 0, 0, .int (0), [], 0), (13, .istore_n 3, 1, 3, 0, .null, [], 0), (14, .iload_n 3, 1, 3, 0, .null, [], 0), (15, .bipush 8, 2, 0, 0, .int (8), [], 0), (17, .if_icmp .ge 55, 3, 0, 72, .null, [], 0), (20, .iload_n 2, 1, 2, 0, .null, [], 0), (21, .aload_n 0, 1, 0, 0, .null, [], 0), (22, .getfield 7, 3, 6, 0, .null, [], 629), (25, .bipush 30, 2, 0, 0, .int (30), [], 0), (27, .iaload, 1, 0, 0, .null, [], 0), (28, .iload_n 3, 1, 3, 0, .null, [], 0), (29, .invokestatic 64, 3, 97, 2, .int 0, [], 732), (32, .ifCond .eq 31, 3, 0, 63, .null, [], 0), (35, .aload_n 0, 1, 0, 0, .null, [], 0), (36, .aload_n 0, 1, 0, 0, .null, [], 0), (37, .getfield 7, 3, 6, 0, .null, [], 629), (40, .bipush 14, 2, 0, 0, .int (14), [], 0), (42, .iload_n 3, 1, 3, 0, .null, [], 0), (43, .iadd, 1, 0, 0, .null, [], 0), (44, .iaload, 1, 0, 0, .null, [], 0), (45, .aload_n 0, 1, 0, 0, .null, [], 0), (46, .getfield 7, 3, 6, 0, .null, [], 629), (49, .iload_n 1, 1, 1, 0, .null, [], 0), (50, .iaload, 1, 0, 0, .null, [], 0), (51, .invokevirtual 101, 3, 101, 3, .int 0, [], 786), (54, .ifCond .eq 9, 3, 0, 63, .null, [], 0), (57, .iconst 1, 1, 0, 0, .int (1), [], 0), (58, .iload_n 3, 1, 3, 0, .null, [], 0), (59, .ishl, 1, 0, 0, .null, [], 0), (60, .goto 4, 3, 0, 64, .null, [], 0), (63, .iconst 0, 1, 0, 0, .int (0), [], 0), (64, .ior, 1, 0, 0, .null, [], 0), (65, .istore_n 2, 1, 2, 0, .null, [], 0), (66, .iinc 3 1, 3, 3, 0, .int (1), [], 0), (69, .goto (-55), 3, 0, 14, .null, [], 0), (72, .iload_n 2, 1, 2, 0, .null, [], 0), (73, .ireturn, 1, 0, 0, .null, [], 0)]
def AM_X6_bears : AMinfo := ((6, yX6_bears, cX6_bears, 4, (some .int)), am_r0_X6_bears, (2, 44, false, false), (821, 819, 820, 1, 40, 2))
def am_r0_X6_areThere : List AMrow := [(0, .iload_n 1, 1, 1, 0, .null, [], 0), (1, .iconst 0, 1, 0, 0, .int (0), [], 0), (2, .bipush 127, 2, 0, 0, .int (127), [], 0), (4, .invokestatic 57, 3, 96, 3, .int 0, [], 707), (7, .ifCond .eq 18, 3, 0, 25, .null, [], 0), (10, .iload_n 1, 1, 1, 0, .null, [], 0), (11, .aload_n 0, 1, 0, 0, .null, [], 0), (12, .getfield 61, 3, 6, 2, .null, [], 631), (15, .iconst (-1), 1, 0, 0, .int (-1), [], 0), (16, .ixor, 1, 0, 0, .null, [], 0), (17, .iand, 1, 0, 0, .null, [], 0), (18, .ifCond .ne 7, 3, 0, 25, .null, [], 0), (21, .iconst 1, 1, 0, 0, .int (1), [], 0), (22, .goto 4, 3, 0, 26, .null, [], 0), (25, .iconst 0, 1, 0, 0, .int (0), [], 0), (26, .ireturn, 1, 0, 0, .null, [], 0)]
def AM_X6_areThere : AMinfo := ((6, yX6_areThere, cX6_areThere, 2, (some .boolean)), am_r0_X6_areThere, (1, 22, false, false), (829, 828, 26, 1, 40, 2))
def am_r0_X6_bearsAll : List AMrow := [(0, .iconst 1, 1, 0, 0, .int (1), [], 0), (1, .istore_n 3, 1, 3, 0, .null, [], 0), (2, .iconst 0, 1, 0, 0, .int (0), [], 0), (3, .istore 4, 2, 4, 0, .null, [], 0), (5, .iload 4, 2, 4, 0, .null, [], 0), (7, .bipush 7, 2, 0, 0, .int (7), [], 0), (9, .if_icmp .ge 43, 3, 0, 52, .null, [], 0), (12, .iload_n 3, 1, 3, 0, .null, [], 0), (13, .ifCond .eq 31, 3, 0, 44, .null, [], 0), (16, .iload_n 2, 1, 2, 0, .null, [], 0), (17, .iload 4, 2, 4, 0, .null, [], 0), (19, .invokestatic 64, 3, 97, 2, .int 0, [], 732), (22, .ifCond .eq 18, 3, 0, 40, .null, [], 0), (25, .aload_n 0, 1, 0, 0, .null, [], 0), (26, .iload_n 1, 1, 1, 0, .null, [], 0), (27, .aload_n 0, 1, 0, 0, .null, [], 0), (28, .getfield 7, 3, 6, 0, .null, [], 629), (31, .iload 4, 2, 4, 0, .null, [], 0), (33, .iaload, 1, 0, 0, .null, [], 0), (34, .invokevirtual 101, 3, 101, 3, .int 0, [], 786), (37, .ifCond .eq 7, 3, 0, 44, .null, [], 0), (40, .iconst 1, 1, 0, 0, .int (1), [], 0), (41, .goto 4, 3, 0, 45, .null, [], 0), (44, .iconst 0, 1, 0, 0, .int (0), [], 0), (45, .istore_n 3, 1, 3, 0, .null, [], 0), (46, .iinc 4 1, 3, 4, 0, .int (1), [], 0), (49, .goto (-44), 3, 0, 5, .null, [], 0), (52, .iload_n 3, 1, 3, 0, .null, [], 0), (53, .ireturn, 1, 0, 0, .null, [], 0)]
def AM_X6_bearsAll : AMinfo := ((6, yX6_bearsAll, cX6_bearsAll, 5, (some .boolean)), am_r0_X6_bearsAll, (2, 44, false, false), (833, 832, 27, 1, 40, 3))
def am_r0_X6_all : List AMrow := [(0, .aload_n 0, 1, 0, 0, .null, [], 0), (1, .iload_n 1, 1, 1, 0, .null, [], 0), (2, .invokevirtual 135, 3, 127, 2, .int 0, [], 826), (5, .ifCond .ne 5, 3, 0, 10, .null, [], 0), (8, .iconst (-1), 1, 0, 0, .int (-1), [], 0), (9, .ireturn, 1, 0, 0, .null, [], 0), (10, .iload_n 2, 1, 2, 0, .null, [], 0), (11, .iconst 0, 1, 0, 0, .int (0), [], 0), (12, .iconst 1, 1, 0, 0, .int (1), [], 0), (13, .invokestatic 57, 3, 96, 3, .int 0, [], 707), (16, .ifCond .ne 6, 3, 0, 22, .null, [], 0), (19, .bipush (-2), 2, 0, 0, .int (-2), [], 0), (21, .ireturn, 1, 0, 0, .null, [], 0), (22, .iconst 0, 1, 0, 0, .int (0), [], 0), (23, .istore_n 3, 1, 3, 0, .null, [], 0), (24, .bipush (-6), 2, 0, 0, .int (-6), [], 0), (26, .istore 4, 2, 4, 0, .null, [], 0), (28, .bipush 9, 2, 0, 0, .int (9), [], 0), (30, .istore 5, 2, 5, 0, .null, [], 0), (32, .iload 5, 2, 5, 0, .null, [], 0), (34, .bipush (-10), 2, 0, 0, .int (-10), [], 0), (36, .if_icmp .le 29, 3, 0, 65, .null, [], 0), (39, .aload_n 0, 1, 0, 0, .null, [], 0), (40, .iload 5, 2, 5, 0, .null, [], 0), (42, .iload_n 1, 1, 1, 0, .null, [], 0), (43, .invokevirtual 138, 3, 128, 3, .int 0, [], 830), (46, .ifCond .eq 13, 3, 0, 59, .null, [], 0), (49, .iinc 3 1, 3, 3, 0, .int (1), [], 0), (52, .iload 5, 2, 5, 0, .null, [], 0), (54, .bipush 10, 2, 0, 0, .int (10), [], 0), (56, .iadd, 1, 0, 0, .null, [], 0), (57, .istore 4, 2, 4, 0, .null, [], 0), (59, .iinc 5 (-1), 3, 5, 0, .int (-1), [], 0), (62, .goto (-30), 3, 0, 32, .null, [], 0), (65, .iload_n 2, 1, 2, 0, .null, [], 0), (66, .ifCond .ne 7, 3, 0, 73, .null, [], 0), (69, .iload_n 3, 1, 3, 0, .null, [], 0), (70, .goto 5, 3, 0, 75, .null, [], 0), (73, .iload 4, 2, 4, 0, .null, [], 0), (75, .ireturn, 1, 0, 0, .null, [], 0)]
def AM_X6_all : AMinfo := ((6, yX6_all, cX6_all, 6, (some .int)), am_r0_X6_all, (3, 68, false, false), (825, 823, 824, 1, 40, 3))
def am_r0_X6_wedges : List AMrow := [(0, .iload_n 1, 1, 1, 0, .null, [], 0), (1, .iconst 0, 1, 0, 0, .int (0), [], 0), (2, .bipush 7, 2, 0, 0, .int (7), [], 0), (4, .invokestatic 57, 3, 96, 3, .int 0, [], 707), (7, .ifCond .eq 25, 3, 0, 32, .null, [], 0), (10, .aload_n 0, 1, 0, 0, .null, [], 0), (11, .getfield 7, 3, 6, 0, .null, [], 629), (14, .bipush 30, 2, 0, 0, .int (30), [], 0), (16, .iaload, 1, 0, 0, .null, [], 0), (17, .iload_n 1, 1, 1, 0, .null, [], 0), (18, .invokestatic 64, 3, 97, 2, .int 0, [], 732), (21, .ifCond .eq 11, 3, 0, 32, .null, [], 0), (24, .aload_n 0, 1, 0, 0, .null, [], 0), (25, .iload_n 2, 1, 2, 0, .null, [], 0), (26, .invokevirtual 135, 3, 127, 2, .int 0, [], 826), (29, .ifCond .ne 5, 3, 0, 34, .null, [], 0), (32, .iconst (-1), 1, 0, 0, .int (-1), [], 0), (33, .ireturn, 1, 0, 0, .null, [], 0), (34, .iload_n 3, 1, 3, 0, .null, [], 0), (35, .iconst 0, 1, 0, 0, .int (0), [], 0), (36, .iconst 1, 1, 0, 0, .int (1), [], 0), (37, .invokestatic 57, 3, 96, 3, .int 0, [], 707), (40, .ifCond .ne 6, 3, 0, 46, .null, [], 0), (43, .bipush (-2), 2, 0, 0, .int (-2), [], 0), (45, .ireturn, 1, 0, 0, .null, [], 0), (46, .ldc 141, 2, 0, 0, .int (1000000), [], 838), (48, .istore 4, 2, 4, 0, .null, [], 0), (50, .bipush (-6), 2, 0, 0, .int (-6), [], 0), (52, .istore 5, 2, 5, 0, .null, [], 0), (54, .bipush (-9), 2, 0, 0, .int (-9), [], 0), (56, .istore 6, 2, 6, 0, .null, [], 0), (58, .iload 6, 2, 6, 0, .null, [], 0), (60, .bipush 10, 2, 0, 0, .int (10), [], 0), (62, .if_icmp .ge 107, 3, 0, 169, .null, [], 0), (65, .iload 6, 2, 6, 0, .null, [], 0), (67, .aload_n 0, 1, 0, 0, .null, [], 0), (68, .getfield 7, 3, 6, 0, .null, [], 629), (71, .bipush 14, 2, 0, 0, .int (14), [], 0), (73, .iload_n 1, 1, 1, 0, .null, [], 0), (74, .iadd, 1, 0, 0, .null, [], 0), (75, .iaload, 1, 0, 0, .null, [], 0), (76, .if_icmp .le 18, 3, 0, 94, .null, [], 0), (79, .iload 6, 2, 6, 0, .null, [], 0), (81, .aload_n 0, 1, 0, 0, .null, [], 0), (82, .getfield 7, 3, 6, 0, .null, [], 629), (85, .bipush 14, 2, 0, 0, .int (14), [], 0), (87, .iload_n 1, 1, 1, 0, .null, [], 0), (88, .iadd, 1, 0, 0, .null, [], 0), (89, .iaload, 1, 0, 0, .null, [], 0), (90, .isub, 1, 0, 0, .null, [], 0), (91, .goto 15, 3, 0, 106, .null, [], 0), (94, .aload_n 0, 1, 0, 0, .null, [], 0), (95, .getfield 7, 3, 6, 0, .null, [], 629), (98, .bipush 14, 2, 0, 0, .int (14), [], 0), (100, .iload_n 1, 1, 1, 0, .null, [], 0), (101, .iadd, 1, 0, 0, .null, [], 0), (102, .iaload, 1, 0, 0, .null, [], 0), (103, .iload 6, 2, 6, 0, .null, [], 0), (105, .isub, 1, 0, 0, .null, [], 0), (106, .istore 7, 2, 7, 0, .null, [], 0)]
def am_r1_X6_wedges : List AMrow := [(108, .aload_n 0, 1, 0, 0, .null, [], 0), (109, .iload 6, 2, 6, 0, .null, [], 0), (111, .iload_n 2, 1, 2, 0, .null, [], 0), (112, .invokevirtual 138, 3, 128, 3, .int 0, [], 830), (115, .ifCond .eq 14, 3, 0, 129, .null, [], 0), (118, .iload 7, 2, 7, 0, .null, [], 0), (120, .iload 4, 2, 4, 0, .null, [], 0), (122, .if_icmp .ge 7, 3, 0, 129, .null, [], 0), (125, .iconst 1, 1, 0, 0, .int (1), [], 0), (126, .goto 4, 3, 0, 130, .null, [], 0), (129, .iconst 0, 1, 0, 0, .int (0), [], 0), (130, .istore 8, 2, 8, 0, .null, [], 0), (132, .iload 8, 2, 8, 0, .null, [], 0), (134, .ifCond .eq 11, 3, 0, 145, .null, [], 0), (137, .iload 6, 2, 6, 0, .null, [], 0), (139, .bipush 10, 2, 0, 0, .int (10), [], 0), (141, .iadd, 1, 0, 0, .null, [], 0), (142, .goto 5, 3, 0, 147, .null, [], 0), (145, .iload 5, 2, 5, 0, .null, [], 0), (147, .istore 5, 2, 5, 0, .null, [], 0), (149, .iload 8, 2, 8, 0, .null, [], 0), (151, .ifCond .eq 8, 3, 0, 159, .null, [], 0), (154, .iload 7, 2, 7, 0, .null, [], 0), (156, .goto 5, 3, 0, 161, .null, [], 0), (159, .iload 4, 2, 4, 0, .null, [], 0), (161, .istore 4, 2, 4, 0, .null, [], 0), (163, .iinc 6 1, 3, 6, 0, .int (1), [], 0), (166, .goto (-108), 3, 0, 58, .null, [], 0), (169, .iload 5, 2, 5, 0, .null, [], 0), (171, .ifCond .lt 8, 3, 0, 179, .null, [], 0), (174, .iload_n 3, 1, 3, 0, .null, [], 0), (175, .iconst 1, 1, 0, 0, .int (1), [], 0), (176, .if_icmp .ne 8, 3, 0, 184, .null, [], 0), (179, .iload 5, 2, 5, 0, .null, [], 0), (181, .goto 5, 3, 0, 186, .null, [], 0), (184, .iload 4, 2, 4, 0, .null, [], 0), (186, .ireturn, 1, 0, 0, .null, [], 0)]
def AM_X6_wedges : AMinfo := ((6, yX6_wedges, cX6_wedges, 9, (some .int)), am_r0_X6_wedges ++ am_r1_X6_wedges, (3, 68, false, false), (837, 835, 836, 1, 40, 4))
def am_r0_X6_meet : List AMrow := [(0, .aload_n 0, 1, 0, 0, .null, [], 0), (1, .iload_n 1, 1, 1, 0, .null, [], 0), (2, .invokevirtual 76, 3, 99, 2, .int 0, [], 728), (5, .ifCond .eq 11, 3, 0, 16, .null, [], 0), (8, .aload_n 0, 1, 0, 0, .null, [], 0), (9, .iload_n 2, 1, 2, 0, .null, [], 0), (10, .invokevirtual 76, 3, 99, 2, .int 0, [], 728), (13, .ifCond .ne 5, 3, 0, 18, .null, [], 0), (16, .iconst (-1), 1, 0, 0, .int (-1), [], 0), (17, .ireturn, 1, 0, 0, .null, [], 0), (18, .iload_n 3, 1, 3, 0, .null, [], 0), (19, .iconst 0, 1, 0, 0, .int (0), [], 0), (20, .bipush 40, 2, 0, 0, .int (40), [], 0), (22, .invokestatic 57, 3, 96, 3, .int 0, [], 707), (25, .ifCond .eq 13, 3, 0, 38, .null, [], 0), (28, .iload 4, 2, 4, 0, .null, [], 0), (30, .iconst 0, 1, 0, 0, .int (0), [], 0), (31, .iconst 1, 1, 0, 0, .int (1), [], 0), (32, .invokestatic 57, 3, 96, 3, .int 0, [], 707), (35, .ifCond .ne 6, 3, 0, 41, .null, [], 0), (38, .bipush (-2), 2, 0, 0, .int (-2), [], 0), (40, .ireturn, 1, 0, 0, .null, [], 0), (41, .ldc 141, 2, 0, 0, .int (1000000), [], 838), (43, .istore 5, 2, 5, 0, .null, [], 0), (45, .iconst 0, 1, 0, 0, .int (0), [], 0), (46, .istore 6, 2, 6, 0, .null, [], 0), (48, .iconst 0, 1, 0, 0, .int (0), [], 0), (49, .istore 7, 2, 7, 0, .null, [], 0), (51, .iload 7, 2, 7, 0, .null, [], 0), (53, .iload_n 3, 1, 3, 0, .null, [], 0), (54, .if_icmp .gt 89, 3, 0, 143, .null, [], 0), (57, .iload 7, 2, 7, 0, .null, [], 0), (59, .aload_n 0, 1, 0, 0, .null, [], 0), (60, .getfield 16, 3, 6, 3, .null, [], 632), (63, .aload_n 0, 1, 0, 0, .null, [], 0), (64, .getfield 7, 3, 6, 0, .null, [], 629), (67, .iload_n 1, 1, 1, 0, .null, [], 0), (68, .iaload, 1, 0, 0, .null, [], 0), (69, .iaload, 1, 0, 0, .null, [], 0), (70, .imul, 1, 0, 0, .null, [], 0), (71, .iload_n 3, 1, 3, 0, .null, [], 0), (72, .iload 7, 2, 7, 0, .null, [], 0), (74, .isub, 1, 0, 0, .null, [], 0), (75, .aload_n 0, 1, 0, 0, .null, [], 0), (76, .getfield 16, 3, 6, 3, .null, [], 632), (79, .aload_n 0, 1, 0, 0, .null, [], 0), (80, .getfield 7, 3, 6, 0, .null, [], 629), (83, .iload_n 2, 1, 2, 0, .null, [], 0), (84, .iaload, 1, 0, 0, .null, [], 0), (85, .iaload, 1, 0, 0, .null, [], 0), (86, .imul, 1, 0, 0, .null, [], 0), (87, .isub, 1, 0, 0, .null, [], 0), (88, .istore 8, 2, 8, 0, .null, [], 0), (90, .iload 8, 2, 8, 0, .null, [], 0), (92, .ifCond .ge 9, 3, 0, 101, .null, [], 0), (95, .iload 8, 2, 8, 0, .null, [], 0), (97, .ineg, 1, 0, 0, .null, [], 0), (98, .goto 5, 3, 0, 103, .null, [], 0), (101, .iload 8, 2, 8, 0, .null, [], 0), (103, .istore 8, 2, 8, 0, .null, [], 0)]
def am_r1_X6_meet : List AMrow := [(105, .iload 8, 2, 8, 0, .null, [], 0), (107, .iload 5, 2, 5, 0, .null, [], 0), (109, .if_icmp .ge 8, 3, 0, 117, .null, [], 0), (112, .iload 7, 2, 7, 0, .null, [], 0), (114, .goto 5, 3, 0, 119, .null, [], 0), (117, .iload 6, 2, 6, 0, .null, [], 0), (119, .istore 6, 2, 6, 0, .null, [], 0), (121, .iload 8, 2, 8, 0, .null, [], 0), (123, .iload 5, 2, 5, 0, .null, [], 0), (125, .if_icmp .ge 8, 3, 0, 133, .null, [], 0), (128, .iload 8, 2, 8, 0, .null, [], 0), (130, .goto 5, 3, 0, 135, .null, [], 0), (133, .iload 5, 2, 5, 0, .null, [], 0), (135, .istore 5, 2, 5, 0, .null, [], 0), (137, .iinc 7 1, 3, 7, 0, .int (1), [], 0), (140, .goto (-89), 3, 0, 51, .null, [], 0), (143, .iload 4, 2, 4, 0, .null, [], 0), (145, .ifCond .ne 8, 3, 0, 153, .null, [], 0), (148, .iload 5, 2, 5, 0, .null, [], 0), (150, .goto 5, 3, 0, 155, .null, [], 0), (153, .iload 6, 2, 6, 0, .null, [], 0), (155, .ireturn, 1, 0, 0, .null, [], 0)]
def AM_X6_meet : AMinfo := ((6, yX6_meet, cX6_meet, 9, (some .int)), am_r0_X6_meet ++ am_r1_X6_meet, (2, 43, false, false), (842, 840, 841, 1, 40, 5))
def am_r0_X6_layFar : List AMrow := [(0, .iconst 0, 1, 0, 0, .int (0), [], 0), (1, .istore_n 3, 1, 3, 0, .null, [], 0), (2, .iload_n 3, 1, 3, 0, .null, [], 0), (3, .bipush 10, 2, 0, 0, .int (10), [], 0), (5, .if_icmp .ge 26, 3, 0, 31, .null, [], 0), (8, .aload_n 0, 1, 0, 0, .null, [], 0), (9, .getfield 41, 3, 6, 19, .null, [], 648), (12, .iload_n 3, 1, 3, 0, .null, [], 0), (13, .iload_n 3, 1, 3, 0, .null, [], 0), (14, .iload_n 2, 1, 2, 0, .null, [], 0), (15, .if_icmp .ne 7, 3, 0, 22, .null, [], 0), (18, .iconst 0, 1, 0, 0, .int (0), [], 0), (19, .goto 5, 3, 0, 24, .null, [], 0), (22, .ldc 141, 2, 0, 0, .int (1000000), [], 838), (24, .iastore, 1, 0, 0, .null, [], 0), (25, .iinc 3 1, 3, 3, 0, .int (1), [], 0), (28, .goto (-26), 3, 0, 2, .null, [], 0), (31, .iconst 0, 1, 0, 0, .int (0), [], 0), (32, .istore_n 3, 1, 3, 0, .null, [], 0), (33, .iload_n 3, 1, 3, 0, .null, [], 0), (34, .bipush 10, 2, 0, 0, .int (10), [], 0), (36, .if_icmp .ge 165, 3, 0, 201, .null, [], 0), (39, .iconst 0, 1, 0, 0, .int (0), [], 0), (40, .istore 4, 2, 4, 0, .null, [], 0), (42, .iload 4, 2, 4, 0, .null, [], 0), (44, .bipush 12, 2, 0, 0, .int (12), [], 0), (46, .if_icmp .ge 149, 3, 0, 195, .null, [], 0), (49, .aload_n 0, 1, 0, 0, .null, [], 0), (50, .getfield 82, 3, 6, 6, .null, [], 635), (53, .iload 4, 2, 4, 0, .null, [], 0), (55, .invokestatic 64, 3, 97, 2, .int 0, [], 732), (58, .ifCond .eq 131, 3, 0, 189, .null, [], 0), (61, .aload_n 0, 1, 0, 0, .null, [], 0), (62, .aload_n 0, 1, 0, 0, .null, [], 0), (63, .getfield 32, 3, 6, 9, .null, [], 638), (66, .iload 4, 2, 4, 0, .null, [], 0), (68, .iaload, 1, 0, 0, .null, [], 0), (69, .aload_n 0, 1, 0, 0, .null, [], 0), (70, .getfield 7, 3, 6, 0, .null, [], 629), (73, .iload_n 1, 1, 1, 0, .null, [], 0), (74, .iaload, 1, 0, 0, .null, [], 0), (75, .invokevirtual 101, 3, 101, 3, .int 0, [], 786), (78, .ifCond .eq 111, 3, 0, 189, .null, [], 0), (81, .aload_n 0, 1, 0, 0, .null, [], 0), (82, .getfield 26, 3, 6, 7, .null, [], 636), (85, .iload 4, 2, 4, 0, .null, [], 0), (87, .iaload, 1, 0, 0, .null, [], 0), (88, .istore 5, 2, 5, 0, .null, [], 0), (90, .aload_n 0, 1, 0, 0, .null, [], 0), (91, .getfield 29, 3, 6, 8, .null, [], 637), (94, .iload 4, 2, 4, 0, .null, [], 0), (96, .iaload, 1, 0, 0, .null, [], 0), (97, .istore 6, 2, 6, 0, .null, [], 0), (99, .aload_n 0, 1, 0, 0, .null, [], 0), (100, .getfield 41, 3, 6, 19, .null, [], 648), (103, .iload 6, 2, 6, 0, .null, [], 0), (105, .aload_n 0, 1, 0, 0, .null, [], 0), (106, .getfield 41, 3, 6, 19, .null, [], 648), (109, .iload 5, 2, 5, 0, .null, [], 0), (111, .iaload, 1, 0, 0, .null, [], 0)]
def am_r1_X6_layFar : List AMrow := [(112, .iconst 1, 1, 0, 0, .int (1), [], 0), (113, .iadd, 1, 0, 0, .null, [], 0), (114, .aload_n 0, 1, 0, 0, .null, [], 0), (115, .getfield 41, 3, 6, 19, .null, [], 648), (118, .iload 6, 2, 6, 0, .null, [], 0), (120, .iaload, 1, 0, 0, .null, [], 0), (121, .if_icmp .ge 15, 3, 0, 136, .null, [], 0), (124, .aload_n 0, 1, 0, 0, .null, [], 0), (125, .getfield 41, 3, 6, 19, .null, [], 648), (128, .iload 5, 2, 5, 0, .null, [], 0), (130, .iaload, 1, 0, 0, .null, [], 0), (131, .iconst 1, 1, 0, 0, .int (1), [], 0), (132, .iadd, 1, 0, 0, .null, [], 0), (133, .goto 10, 3, 0, 143, .null, [], 0), (136, .aload_n 0, 1, 0, 0, .null, [], 0), (137, .getfield 41, 3, 6, 19, .null, [], 648), (140, .iload 6, 2, 6, 0, .null, [], 0), (142, .iaload, 1, 0, 0, .null, [], 0), (143, .iastore, 1, 0, 0, .null, [], 0), (144, .aload_n 0, 1, 0, 0, .null, [], 0), (145, .getfield 41, 3, 6, 19, .null, [], 648), (148, .iload 5, 2, 5, 0, .null, [], 0), (150, .aload_n 0, 1, 0, 0, .null, [], 0), (151, .getfield 41, 3, 6, 19, .null, [], 648), (154, .iload 6, 2, 6, 0, .null, [], 0), (156, .iaload, 1, 0, 0, .null, [], 0), (157, .iconst 1, 1, 0, 0, .int (1), [], 0), (158, .iadd, 1, 0, 0, .null, [], 0), (159, .aload_n 0, 1, 0, 0, .null, [], 0), (160, .getfield 41, 3, 6, 19, .null, [], 648), (163, .iload 5, 2, 5, 0, .null, [], 0), (165, .iaload, 1, 0, 0, .null, [], 0), (166, .if_icmp .ge 15, 3, 0, 181, .null, [], 0), (169, .aload_n 0, 1, 0, 0, .null, [], 0), (170, .getfield 41, 3, 6, 19, .null, [], 648), (173, .iload 6, 2, 6, 0, .null, [], 0), (175, .iaload, 1, 0, 0, .null, [], 0), (176, .iconst 1, 1, 0, 0, .int (1), [], 0), (177, .iadd, 1, 0, 0, .null, [], 0), (178, .goto 10, 3, 0, 188, .null, [], 0), (181, .aload_n 0, 1, 0, 0, .null, [], 0), (182, .getfield 41, 3, 6, 19, .null, [], 648), (185, .iload 5, 2, 5, 0, .null, [], 0), (187, .iaload, 1, 0, 0, .null, [], 0), (188, .iastore, 1, 0, 0, .null, [], 0), (189, .iinc 4 1, 3, 4, 0, .int (1), [], 0), (192, .goto (-150), 3, 0, 42, .null, [], 0), (195, .iinc 3 1, 3, 3, 0, .int (1), [], 0), (198, .goto (-165), 3, 0, 33, .null, [], 0), (201, .return_, 1, 0, 0, .null, [], 0)]
def AM_X6_layFar : AMinfo := ((6, yX6_layFar, cX6_layFar, 7, none), am_r0_X6_layFar ++ am_r1_X6_layFar, (2, 44, false, false), (850, 849, 28, 1, 40, 3))
def am_r0_X6_ways : List AMrow := [(0, .aload_n 0, 1, 0, 0, .null, [], 0), (1, .iload_n 1, 1, 1, 0, .null, [], 0), (2, .invokevirtual 76, 3, 99, 2, .int 0, [], 728), (5, .ifCond .ne 5, 3, 0, 10, .null, [], 0), (8, .iconst (-1), 1, 0, 0, .int (-1), [], 0), (9, .ireturn, 1, 0, 0, .null, [], 0), (10, .iload_n 2, 1, 2, 0, .null, [], 0), (11, .invokestatic 79, 3, 107, 1, .int 0, [], 743), (14, .ifCond .eq 20, 3, 0, 34, .null, [], 0), (17, .iload_n 3, 1, 3, 0, .null, [], 0), (18, .invokestatic 79, 3, 107, 1, .int 0, [], 743), (21, .ifCond .eq 13, 3, 0, 34, .null, [], 0), (24, .iload 4, 2, 4, 0, .null, [], 0), (26, .iconst 0, 1, 0, 0, .int (0), [], 0), (27, .iconst 1, 1, 0, 0, .int (1), [], 0), (28, .invokestatic 57, 3, 96, 3, .int 0, [], 707), (31, .ifCond .ne 6, 3, 0, 37, .null, [], 0), (34, .bipush (-2), 2, 0, 0, .int (-2), [], 0), (36, .ireturn, 1, 0, 0, .null, [], 0), (37, .aload_n 0, 1, 0, 0, .null, [], 0), (38, .iload_n 1, 1, 1, 0, .null, [], 0), (39, .iload_n 3, 1, 3, 0, .null, [], 0), (40, .invokevirtual 142, 3, 132, 3, .int 0, [], 847), (43, .aload_n 0, 1, 0, 0, .null, [], 0), (44, .getfield 41, 3, 6, 19, .null, [], 648), (47, .iload_n 2, 1, 2, 0, .null, [], 0), (48, .iaload, 1, 0, 0, .null, [], 0), (49, .ldc 141, 2, 0, 0, .int (1000000), [], 838), (51, .if_icmp .lt 6, 3, 0, 57, .null, [], 0), (54, .bipush (-6), 2, 0, 0, .int (-6), [], 0), (56, .ireturn, 1, 0, 0, .null, [], 0), (57, .iload 4, 2, 4, 0, .null, [], 0), (59, .ifCond .ne 10, 3, 0, 69, .null, [], 0), (62, .aload_n 0, 1, 0, 0, .null, [], 0), (63, .getfield 41, 3, 6, 19, .null, [], 648), (66, .iload_n 2, 1, 2, 0, .null, [], 0), (67, .iaload, 1, 0, 0, .null, [], 0), (68, .ireturn, 1, 0, 0, .null, [], 0), (69, .bipush (-6), 2, 0, 0, .int (-6), [], 0), (71, .istore 5, 2, 5, 0, .null, [], 0), (73, .iconst 0, 1, 0, 0, .int (0), [], 0), (74, .istore 6, 2, 6, 0, .null, [], 0), (76, .iload 6, 2, 6, 0, .null, [], 0), (78, .bipush 12, 2, 0, 0, .int (12), [], 0), (80, .if_icmp .ge 137, 3, 0, 217, .null, [], 0), (83, .iload_n 2, 1, 2, 0, .null, [], 0), (84, .iload_n 3, 1, 3, 0, .null, [], 0), (85, .if_icmp .eq 132, 3, 0, 217, .null, [], 0), (88, .aload_n 0, 1, 0, 0, .null, [], 0), (89, .getfield 82, 3, 6, 6, .null, [], 635), (92, .iload 6, 2, 6, 0, .null, [], 0), (94, .invokestatic 64, 3, 97, 2, .int 0, [], 732), (97, .ifCond .eq 114, 3, 0, 211, .null, [], 0), (100, .aload_n 0, 1, 0, 0, .null, [], 0), (101, .aload_n 0, 1, 0, 0, .null, [], 0), (102, .getfield 32, 3, 6, 9, .null, [], 638), (105, .iload 6, 2, 6, 0, .null, [], 0), (107, .iaload, 1, 0, 0, .null, [], 0), (108, .aload_n 0, 1, 0, 0, .null, [], 0), (109, .getfield 7, 3, 6, 0, .null, [], 629)]
def am_r1_X6_ways : List AMrow := [(112, .iload_n 1, 1, 1, 0, .null, [], 0), (113, .iaload, 1, 0, 0, .null, [], 0), (114, .invokevirtual 101, 3, 101, 3, .int 0, [], 786), (117, .ifCond .eq 94, 3, 0, 211, .null, [], 0), (120, .aload_n 0, 1, 0, 0, .null, [], 0), (121, .getfield 26, 3, 6, 7, .null, [], 636), (124, .iload 6, 2, 6, 0, .null, [], 0), (126, .iaload, 1, 0, 0, .null, [], 0), (127, .iload_n 2, 1, 2, 0, .null, [], 0), (128, .if_icmp .eq 14, 3, 0, 142, .null, [], 0), (131, .aload_n 0, 1, 0, 0, .null, [], 0), (132, .getfield 29, 3, 6, 8, .null, [], 637), (135, .iload 6, 2, 6, 0, .null, [], 0), (137, .iaload, 1, 0, 0, .null, [], 0), (138, .iload_n 2, 1, 2, 0, .null, [], 0), (139, .if_icmp .ne 72, 3, 0, 211, .null, [], 0), (142, .aload_n 0, 1, 0, 0, .null, [], 0), (143, .getfield 26, 3, 6, 7, .null, [], 636), (146, .iload 6, 2, 6, 0, .null, [], 0), (148, .iaload, 1, 0, 0, .null, [], 0), (149, .iload_n 2, 1, 2, 0, .null, [], 0), (150, .if_icmp .ne 13, 3, 0, 163, .null, [], 0), (153, .aload_n 0, 1, 0, 0, .null, [], 0), (154, .getfield 29, 3, 6, 8, .null, [], 637), (157, .iload 6, 2, 6, 0, .null, [], 0), (159, .iaload, 1, 0, 0, .null, [], 0), (160, .goto 10, 3, 0, 170, .null, [], 0), (163, .aload_n 0, 1, 0, 0, .null, [], 0), (164, .getfield 26, 3, 6, 7, .null, [], 636), (167, .iload 6, 2, 6, 0, .null, [], 0), (169, .iaload, 1, 0, 0, .null, [], 0), (170, .istore 7, 2, 7, 0, .null, [], 0), (172, .aload_n 0, 1, 0, 0, .null, [], 0), (173, .getfield 41, 3, 6, 19, .null, [], 648), (176, .iload 7, 2, 7, 0, .null, [], 0), (178, .iaload, 1, 0, 0, .null, [], 0), (179, .iconst 1, 1, 0, 0, .int (1), [], 0), (180, .iadd, 1, 0, 0, .null, [], 0), (181, .aload_n 0, 1, 0, 0, .null, [], 0), (182, .getfield 41, 3, 6, 19, .null, [], 648), (185, .iload_n 2, 1, 2, 0, .null, [], 0), (186, .iaload, 1, 0, 0, .null, [], 0), (187, .if_icmp .ne 20, 3, 0, 207, .null, [], 0), (190, .iload 5, 2, 5, 0, .null, [], 0), (192, .ifCond .lt 10, 3, 0, 202, .null, [], 0), (195, .iload 7, 2, 7, 0, .null, [], 0), (197, .iload 5, 2, 5, 0, .null, [], 0), (199, .if_icmp .ge 8, 3, 0, 207, .null, [], 0), (202, .iload 7, 2, 7, 0, .null, [], 0), (204, .goto 5, 3, 0, 209, .null, [], 0), (207, .iload 5, 2, 5, 0, .null, [], 0), (209, .istore 5, 2, 5, 0, .null, [], 0), (211, .iinc 6 1, 3, 6, 0, .int (1), [], 0), (214, .goto (-138), 3, 0, 76, .null, [], 0), (217, .iload 5, 2, 5, 0, .null, [], 0), (219, .ireturn, 1, 0, 0, .null, [], 0)]
def AM_X6_ways : AMinfo := ((6, yX6_ways, cX6_ways, 8, (some .int)), am_r0_X6_ways ++ am_r1_X6_ways, (3, 70, false, false), (846, 844, 845, 1, 40, 5))
def am_r0_X6_reach : List AMrow := [(0, .aload_n 0, 1, 0, 0, .null, [], 0), (1, .iload_n 1, 1, 1, 0, .null, [], 0), (2, .invokevirtual 76, 3, 99, 2, .int 0, [], 728), (5, .ifCond .ne 5, 3, 0, 10, .null, [], 0), (8, .iconst (-1), 1, 0, 0, .int (-1), [], 0), (9, .ireturn, 1, 0, 0, .null, [], 0), (10, .iload_n 2, 1, 2, 0, .null, [], 0), (11, .invokestatic 79, 3, 107, 1, .int 0, [], 743), (14, .ifCond .ne 6, 3, 0, 20, .null, [], 0), (17, .bipush (-2), 2, 0, 0, .int (-2), [], 0), (19, .ireturn, 1, 0, 0, .null, [], 0), (20, .aload_n 0, 1, 0, 0, .null, [], 0), (21, .iload_n 1, 1, 1, 0, .null, [], 0), (22, .iload_n 2, 1, 2, 0, .null, [], 0), (23, .invokevirtual 142, 3, 132, 3, .int 0, [], 847), (26, .iconst 0, 1, 0, 0, .int (0), [], 0), (27, .istore_n 3, 1, 3, 0, .null, [], 0), (28, .iconst 0, 1, 0, 0, .int (0), [], 0), (29, .istore 4, 2, 4, 0, .null, [], 0), (31, .iload 4, 2, 4, 0, .null, [], 0), (33, .bipush 10, 2, 0, 0, .int (10), [], 0), (35, .if_icmp .ge 32, 3, 0, 67, .null, [], 0), (38, .iload_n 3, 1, 3, 0, .null, [], 0), (39, .aload_n 0, 1, 0, 0, .null, [], 0), (40, .getfield 41, 3, 6, 19, .null, [], 648), (43, .iload 4, 2, 4, 0, .null, [], 0), (45, .iaload, 1, 0, 0, .null, [], 0), (46, .ldc 141, 2, 0, 0, .int (1000000), [], 838), (48, .if_icmp .ge 10, 3, 0, 58, .null, [], 0), (51, .iconst 1, 1, 0, 0, .int (1), [], 0), (52, .iload 4, 2, 4, 0, .null, [], 0), (54, .ishl, 1, 0, 0, .null, [], 0), (55, .goto 4, 3, 0, 59, .null, [], 0), (58, .iconst 0, 1, 0, 0, .int (0), [], 0), (59, .ior, 1, 0, 0, .null, [], 0), (60, .istore_n 3, 1, 3, 0, .null, [], 0), (61, .iinc 4 1, 3, 4, 0, .int (1), [], 0), (64, .goto (-33), 3, 0, 31, .null, [], 0), (67, .iload_n 3, 1, 3, 0, .null, [], 0), (68, .ireturn, 1, 0, 0, .null, [], 0)]
def AM_X6_reach : AMinfo := ((6, yX6_reach, cX6_reach, 5, (some .int)), am_r0_X6_reach, (3, 70, false, false), (854, 852, 853, 1, 40, 3))
def am_r0_X6_seen : List AMrow := [(0, .iload_n 1, 1, 1, 0, .null, [], 0), (1, .invokestatic 68, 3, 100, 1, .int 0, [], 710), (4, .ifCond .eq 12, 3, 0, 16, .null, [], 0), (7, .iload_n 2, 1, 2, 0, .null, [], 0), (8, .iconst 0, 1, 0, 0, .int (0), [], 0), (9, .iconst 2, 1, 0, 0, .int (2), [], 0), (10, .invokestatic 57, 3, 96, 3, .int 0, [], 707), (13, .ifCond .ne 6, 3, 0, 19, .null, [], 0), (16, .bipush (-2), 2, 0, 0, .int (-2), [], 0), (18, .ireturn, 1, 0, 0, .null, [], 0), (19, .aload_n 0, 1, 0, 0, .null, [], 0), (20, .getfield 146, 3, 6, 10, .null, [], 639), (23, .bipush 8, 2, 0, 0, .int (8), [], 0), (25, .if_icmp .ne 6, 3, 0, 31, .null, [], 0), (28, .bipush (-4), 2, 0, 0, .int (-4), [], 0), (30, .ireturn, 1, 0, 0, .null, [], 0), (31, .aload_n 0, 1, 0, 0, .null, [], 0), (32, .getfield 35, 3, 6, 11, .null, [], 640), (35, .iconst 2, 1, 0, 0, .int (2), [], 0), (36, .aload_n 0, 1, 0, 0, .null, [], 0), (37, .getfield 146, 3, 6, 10, .null, [], 639), (40, .imul, 1, 0, 0, .null, [], 0), (41, .iload_n 1, 1, 1, 0, .null, [], 0), (42, .iastore, 1, 0, 0, .null, [], 0), (43, .aload_n 0, 1, 0, 0, .null, [], 0), (44, .getfield 35, 3, 6, 11, .null, [], 640), (47, .iconst 2, 1, 0, 0, .int (2), [], 0), (48, .aload_n 0, 1, 0, 0, .null, [], 0), (49, .getfield 146, 3, 6, 10, .null, [], 639), (52, .imul, 1, 0, 0, .null, [], 0), (53, .iconst 1, 1, 0, 0, .int (1), [], 0), (54, .iadd, 1, 0, 0, .null, [], 0), (55, .iload_n 2, 1, 2, 0, .null, [], 0), (56, .iastore, 1, 0, 0, .null, [], 0), (57, .aload_n 0, 1, 0, 0, .null, [], 0), (58, .dup, 1, 0, 0, .null, [], 0), (59, .getfield 146, 3, 6, 10, .null, [], 639), (62, .iconst 1, 1, 0, 0, .int (1), [], 0), (63, .iadd, 1, 0, 0, .null, [], 0), (64, .putfield 146, 3, 6, 10, .null, [], 639), (67, .aload_n 0, 1, 0, 0, .null, [], 0), (68, .getfield 146, 3, 6, 10, .null, [], 639), (71, .ireturn, 1, 0, 0, .null, [], 0)]
def AM_X6_seen : AMinfo := ((6, yX6_seen, cX6_seen, 3, (some .int)), am_r0_X6_seen, (2, 42, false, false), (858, 856, 857, 1, 40, 3))
def am_r0_X6_forget : List AMrow := [(0, .aload_n 0, 1, 0, 0, .null, [], 0), (1, .getfield 146, 3, 6, 10, .null, [], 639), (4, .istore_n 1, 1, 1, 0, .null, [], 0), (5, .aload_n 0, 1, 0, 0, .null, [], 0), (6, .iconst 0, 1, 0, 0, .int (0), [], 0), (7, .putfield 146, 3, 6, 10, .null, [], 639), (10, .iload_n 1, 1, 1, 0, .null, [], 0), (11, .ireturn, 1, 0, 0, .null, [], 0)]
def AM_X6_forget : AMinfo := ((6, yX6_forget, cX6_forget, 2, (some .int)), am_r0_X6_forget, (0, 0, false, false), (862, 860, 861, 1, 40, 1))
def am_r0_X6_howIs : List AMrow := [(0, .iload_n 0, 1, 0, 0, .null, [], 0), (1, .iload_n 1, 1, 1, 0, .null, [], 0), (2, .if_icmp .ge 7, 3, 0, 9, .null, [], 0), (5, .iconst 0, 1, 0, 0, .int (0), [], 0), (6, .goto 13, 3, 0, 19, .null, [], 0), (9, .iload_n 0, 1, 0, 0, .null, [], 0), (10, .iload_n 1, 1, 1, 0, .null, [], 0), (11, .if_icmp .ne 7, 3, 0, 18, .null, [], 0), (14, .iconst 1, 1, 0, 0, .int (1), [], 0), (15, .goto 4, 3, 0, 19, .null, [], 0), (18, .iconst 2, 1, 0, 0, .int (2), [], 0), (19, .ireturn, 1, 0, 0, .null, [], 0)]
def AM_X6_howIs : AMinfo := ((6, yX6_howIs, cX6_howIs, 2, (some .int)), am_r0_X6_howIs, (0, 0, false, false), (873, 872, 0, 0, 40, 2))
def am_r0_X6_fits : List AMrow := [(0, .iconst 1, 1, 0, 0, .int (1), [], 0), (1, .istore_n 2, 1, 2, 0, .null, [], 0), (2, .iconst 0, 1, 0, 0, .int (0), [], 0), (3, .istore_n 3, 1, 3, 0, .null, [], 0), (4, .iload_n 3, 1, 3, 0, .null, [], 0), (5, .aload_n 0, 1, 0, 0, .null, [], 0), (6, .getfield 146, 3, 6, 10, .null, [], 639), (9, .if_icmp .ge 44, 3, 0, 53, .null, [], 0), (12, .iload_n 2, 1, 2, 0, .null, [], 0), (13, .ifCond .eq 32, 3, 0, 45, .null, [], 0), (16, .iload_n 1, 1, 1, 0, .null, [], 0), (17, .aload_n 0, 1, 0, 0, .null, [], 0), (18, .getfield 35, 3, 6, 11, .null, [], 640), (21, .iconst 2, 1, 0, 0, .int (2), [], 0), (22, .iload_n 3, 1, 3, 0, .null, [], 0), (23, .imul, 1, 0, 0, .null, [], 0), (24, .iaload, 1, 0, 0, .null, [], 0), (25, .invokestatic 149, 3, 137, 2, .int 0, [], 871), (28, .aload_n 0, 1, 0, 0, .null, [], 0), (29, .getfield 35, 3, 6, 11, .null, [], 640), (32, .iconst 2, 1, 0, 0, .int (2), [], 0), (33, .iload_n 3, 1, 3, 0, .null, [], 0), (34, .imul, 1, 0, 0, .null, [], 0), (35, .iconst 1, 1, 0, 0, .int (1), [], 0), (36, .iadd, 1, 0, 0, .null, [], 0), (37, .iaload, 1, 0, 0, .null, [], 0), (38, .if_icmp .ne 7, 3, 0, 45, .null, [], 0), (41, .iconst 1, 1, 0, 0, .int (1), [], 0), (42, .goto 4, 3, 0, 46, .null, [], 0), (45, .iconst 0, 1, 0, 0, .int (0), [], 0), (46, .istore_n 2, 1, 2, 0, .null, [], 0), (47, .iinc 3 1, 3, 3, 0, .int (1), [], 0), (50, .goto (-46), 3, 0, 4, .null, [], 0), (53, .iload_n 2, 1, 2, 0, .null, [], 0), (54, .ireturn, 1, 0, 0, .null, [], 0)]
def AM_X6_fits : AMinfo := ((6, yX6_fits, cX6_fits, 4, (some .boolean)), am_r0_X6_fits, (1, 21, false, false), (870, 869, 29, 1, 40, 2))
def am_r0_X6_downs : List AMrow := [(0, .iconst 0, 1, 0, 0, .int (0), [], 0), (1, .istore_n 2, 1, 2, 0, .null, [], 0), (2, .bipush (-9), 2, 0, 0, .int (-9), [], 0), (4, .istore_n 3, 1, 3, 0, .null, [], 0), (5, .iload_n 3, 1, 3, 0, .null, [], 0), (6, .bipush 10, 2, 0, 0, .int (10), [], 0), (8, .if_icmp .ge 30, 3, 0, 38, .null, [], 0), (11, .aload_n 0, 1, 0, 0, .null, [], 0), (12, .iload_n 3, 1, 3, 0, .null, [], 0), (13, .invokevirtual 152, 3, 138, 2, .int 0, [], 867), (16, .ifCond .eq 16, 3, 0, 32, .null, [], 0), (19, .iload_n 2, 1, 2, 0, .null, [], 0), (20, .iload_n 1, 1, 1, 0, .null, [], 0), (21, .if_icmp .ne 8, 3, 0, 29, .null, [], 0), (24, .iload_n 3, 1, 3, 0, .null, [], 0), (25, .bipush 10, 2, 0, 0, .int (10), [], 0), (27, .iadd, 1, 0, 0, .null, [], 0), (28, .ireturn, 1, 0, 0, .null, [], 0), (29, .iinc 2 1, 3, 2, 0, .int (1), [], 0), (32, .iinc 3 1, 3, 3, 0, .int (1), [], 0), (35, .goto (-30), 3, 0, 5, .null, [], 0), (38, .iload_n 1, 1, 1, 0, .null, [], 0), (39, .iconst (-1), 1, 0, 0, .int (-1), [], 0), (40, .if_icmp .ne 7, 3, 0, 47, .null, [], 0), (43, .iload_n 2, 1, 2, 0, .null, [], 0), (44, .goto 5, 3, 0, 49, .null, [], 0), (47, .bipush (-6), 2, 0, 0, .int (-6), [], 0), (49, .ireturn, 1, 0, 0, .null, [], 0)]
def AM_X6_downs : AMinfo := ((6, yX6_downs, cX6_downs, 4, (some .int)), am_r0_X6_downs, (2, 44, false, false), (866, 864, 865, 1, 40, 2))
def am_r0_X6_next : List AMrow := [(0, .iload_n 1, 1, 1, 0, .null, [], 0), (1, .iconst 0, 1, 0, 0, .int (0), [], 0), (2, .iconst 1, 1, 0, 0, .int (1), [], 0), (3, .invokestatic 57, 3, 96, 3, .int 0, [], 707), (6, .ifCond .ne 6, 3, 0, 12, .null, [], 0), (9, .bipush (-2), 2, 0, 0, .int (-2), [], 0), (11, .ireturn, 1, 0, 0, .null, [], 0), (12, .bipush (-6), 2, 0, 0, .int (-6), [], 0), (14, .istore_n 2, 1, 2, 0, .null, [], 0), (15, .ldc 141, 2, 0, 0, .int (1000000), [], 838), (17, .istore_n 3, 1, 3, 0, .null, [], 0), (18, .bipush (-9), 2, 0, 0, .int (-9), [], 0), (20, .istore 4, 2, 4, 0, .null, [], 0), (22, .iload 4, 2, 4, 0, .null, [], 0), (24, .bipush 10, 2, 0, 0, .int (10), [], 0), (26, .if_icmp .ge 167, 3, 0, 193, .null, [], 0), (29, .iconst 0, 1, 0, 0, .int (0), [], 0), (30, .istore 5, 2, 5, 0, .null, [], 0), (32, .iconst 0, 1, 0, 0, .int (0), [], 0), (33, .istore 6, 2, 6, 0, .null, [], 0), (35, .iload 6, 2, 6, 0, .null, [], 0), (37, .iconst 3, 1, 0, 0, .int (3), [], 0), (38, .if_icmp .ge 17, 3, 0, 55, .null, [], 0), (41, .aload_n 0, 1, 0, 0, .null, [], 0), (42, .getfield 44, 3, 6, 20, .null, [], 649), (45, .iload 6, 2, 6, 0, .null, [], 0), (47, .iconst 0, 1, 0, 0, .int (0), [], 0), (48, .iastore, 1, 0, 0, .null, [], 0), (49, .iinc 6 1, 3, 6, 0, .int (1), [], 0), (52, .goto (-17), 3, 0, 35, .null, [], 0), (55, .bipush (-9), 2, 0, 0, .int (-9), [], 0), (57, .istore 6, 2, 6, 0, .null, [], 0), (59, .iload 6, 2, 6, 0, .null, [], 0), (61, .bipush 10, 2, 0, 0, .int (10), [], 0), (63, .if_icmp .ge 38, 3, 0, 101, .null, [], 0), (66, .aload_n 0, 1, 0, 0, .null, [], 0), (67, .getfield 44, 3, 6, 20, .null, [], 649), (70, .iload 6, 2, 6, 0, .null, [], 0), (72, .iload 4, 2, 4, 0, .null, [], 0), (74, .invokestatic 149, 3, 137, 2, .int 0, [], 871), (77, .dup2, 1, 0, 0, .null, [], 0), (78, .iaload, 1, 0, 0, .null, [], 0), (79, .aload_n 0, 1, 0, 0, .null, [], 0), (80, .iload 6, 2, 6, 0, .null, [], 0), (82, .invokevirtual 152, 3, 138, 2, .int 0, [], 867), (85, .ifCond .eq 7, 3, 0, 92, .null, [], 0), (88, .iconst 1, 1, 0, 0, .int (1), [], 0), (89, .goto 4, 3, 0, 93, .null, [], 0), (92, .iconst 0, 1, 0, 0, .int (0), [], 0), (93, .iadd, 1, 0, 0, .null, [], 0), (94, .iastore, 1, 0, 0, .null, [], 0), (95, .iinc 6 1, 3, 6, 0, .int (1), [], 0), (98, .goto (-39), 3, 0, 59, .null, [], 0), (101, .iconst 0, 1, 0, 0, .int (0), [], 0), (102, .istore 6, 2, 6, 0, .null, [], 0), (104, .iload 6, 2, 6, 0, .null, [], 0), (106, .iconst 3, 1, 0, 0, .int (3), [], 0), (107, .if_icmp .ge 35, 3, 0, 142, .null, [], 0), (110, .aload_n 0, 1, 0, 0, .null, [], 0), (111, .getfield 44, 3, 6, 20, .null, [], 649)]
def am_r1_X6_next : List AMrow := [(114, .iload 6, 2, 6, 0, .null, [], 0), (116, .iaload, 1, 0, 0, .null, [], 0), (117, .iload 5, 2, 5, 0, .null, [], 0), (119, .if_icmp .le 13, 3, 0, 132, .null, [], 0), (122, .aload_n 0, 1, 0, 0, .null, [], 0), (123, .getfield 44, 3, 6, 20, .null, [], 649), (126, .iload 6, 2, 6, 0, .null, [], 0), (128, .iaload, 1, 0, 0, .null, [], 0), (129, .goto 5, 3, 0, 134, .null, [], 0), (132, .iload 5, 2, 5, 0, .null, [], 0), (134, .istore 5, 2, 5, 0, .null, [], 0), (136, .iinc 6 1, 3, 6, 0, .int (1), [], 0), (139, .goto (-35), 3, 0, 104, .null, [], 0), (142, .iload 5, 2, 5, 0, .null, [], 0), (144, .ifCond .le 13, 3, 0, 157, .null, [], 0), (147, .iload 5, 2, 5, 0, .null, [], 0), (149, .iload_n 3, 1, 3, 0, .null, [], 0), (150, .if_icmp .ge 7, 3, 0, 157, .null, [], 0), (153, .iconst 1, 1, 0, 0, .int (1), [], 0), (154, .goto 4, 3, 0, 158, .null, [], 0), (157, .iconst 0, 1, 0, 0, .int (0), [], 0), (158, .istore 6, 2, 6, 0, .null, [], 0), (160, .iload 6, 2, 6, 0, .null, [], 0), (162, .ifCond .eq 11, 3, 0, 173, .null, [], 0), (165, .iload 4, 2, 4, 0, .null, [], 0), (167, .bipush 10, 2, 0, 0, .int (10), [], 0), (169, .iadd, 1, 0, 0, .null, [], 0), (170, .goto 4, 3, 0, 174, .null, [], 0), (173, .iload_n 2, 1, 2, 0, .null, [], 0), (174, .istore_n 2, 1, 2, 0, .null, [], 0), (175, .iload 6, 2, 6, 0, .null, [], 0), (177, .ifCond .eq 8, 3, 0, 185, .null, [], 0), (180, .iload 5, 2, 5, 0, .null, [], 0), (182, .goto 4, 3, 0, 186, .null, [], 0), (185, .iload_n 3, 1, 3, 0, .null, [], 0), (186, .istore_n 3, 1, 3, 0, .null, [], 0), (187, .iinc 4 1, 3, 4, 0, .int (1), [], 0), (190, .goto (-168), 3, 0, 22, .null, [], 0), (193, .iload_n 2, 1, 2, 0, .null, [], 0), (194, .ifCond .lt 7, 3, 0, 201, .null, [], 0), (197, .iload_n 1, 1, 1, 0, .null, [], 0), (198, .ifCond .ne 7, 3, 0, 205, .null, [], 0), (201, .iload_n 2, 1, 2, 0, .null, [], 0), (202, .goto 4, 3, 0, 206, .null, [], 0), (205, .iload_n 3, 1, 3, 0, .null, [], 0), (206, .ireturn, 1, 0, 0, .null, [], 0)]
def AM_X6_next : AMinfo := ((6, yX6_next, cX6_next, 7, (some .int)), am_r0_X6_next ++ am_r1_X6_next, (2, 44, false, false), (877, 875, 876, 1, 40, 2))
def am_r0_X6_creedsNow : List AMrow := [(0, .iconst 0, 1, 0, 0, .int (0), [], 0), (1, .istore_n 1, 1, 1, 0, .null, [], 0), (2, .bipush 6, 2, 0, 0, .int (6), [], 0), (4, .istore_n 2, 1, 2, 0, .null, [], 0), (5, .iload_n 2, 1, 2, 0, .null, [], 0), (6, .ifCond .lt 35, 3, 0, 41, .null, [], 0), (9, .iconst 3, 1, 0, 0, .int (3), [], 0), (10, .iload_n 1, 1, 1, 0, .null, [], 0), (11, .imul, 1, 0, 0, .null, [], 0), (12, .aload_n 0, 1, 0, 0, .null, [], 0), (13, .getfield 61, 3, 6, 2, .null, [], 631), (16, .iload_n 2, 1, 2, 0, .null, [], 0), (17, .invokestatic 64, 3, 97, 2, .int 0, [], 732), (20, .ifCond .eq 12, 3, 0, 32, .null, [], 0), (23, .aload_n 0, 1, 0, 0, .null, [], 0), (24, .getfield 7, 3, 6, 0, .null, [], 629), (27, .iload_n 2, 1, 2, 0, .null, [], 0), (28, .iaload, 1, 0, 0, .null, [], 0), (29, .goto 4, 3, 0, 33, .null, [], 0), (32, .iconst 0, 1, 0, 0, .int (0), [], 0), (33, .iadd, 1, 0, 0, .null, [], 0), (34, .istore_n 1, 1, 1, 0, .null, [], 0), (35, .iinc 2 (-1), 3, 2, 0, .int (-1), [], 0), (38, .goto (-33), 3, 0, 5, .null, [], 0), (41, .iload_n 1, 1, 1, 0, .null, [], 0), (42, .ireturn, 1, 0, 0, .null, [], 0)]
def AM_X6_creedsNow : AMinfo := ((6, yX6_creedsNow, cX6_creedsNow, 3, (some .int)), am_r0_X6_creedsNow, (1, 21, false, false), (885, 884, 30, 1, 40, 1))
def am_r0_X6_creedIn : List AMrow := [(0, .iload_n 0, 1, 0, 0, .null, [], 0), (1, .istore_n 2, 1, 2, 0, .null, [], 0), (2, .iconst 0, 1, 0, 0, .int (0), [], 0), (3, .istore_n 3, 1, 3, 0, .null, [], 0), (4, .iload_n 3, 1, 3, 0, .null, [], 0), (5, .iload_n 1, 1, 1, 0, .null, [], 0), (6, .if_icmp .ge 13, 3, 0, 19, .null, [], 0), (9, .iload_n 2, 1, 2, 0, .null, [], 0), (10, .iconst 3, 1, 0, 0, .int (3), [], 0), (11, .idiv, 1, 0, 0, .null, [], 0), (12, .istore_n 2, 1, 2, 0, .null, [], 0), (13, .iinc 3 1, 3, 3, 0, .int (1), [], 0), (16, .goto (-12), 3, 0, 4, .null, [], 0), (19, .iload_n 2, 1, 2, 0, .null, [], 0), (20, .iconst 3, 1, 0, 0, .int (3), [], 0), (21, .irem, 1, 0, 0, .null, [], 0), (22, .ireturn, 1, 0, 0, .null, [], 0)]
def AM_X6_creedIn : AMinfo := ((6, yX6_creedIn, cX6_creedIn, 4, (some .int)), am_r0_X6_creedIn, (0, 0, false, false), (892, 891, 0, 0, 40, 2))
def am_r0_X6_yearOn : List AMrow := [(0, .iconst 0, 1, 0, 0, .int (0), [], 0), (1, .istore_n 2, 1, 2, 0, .null, [], 0), (2, .bipush 6, 2, 0, 0, .int (6), [], 0), (4, .istore_n 3, 1, 3, 0, .null, [], 0), (5, .iload_n 3, 1, 3, 0, .null, [], 0), (6, .ifCond .lt 185, 3, 0, 191, .null, [], 0), (9, .iload_n 1, 1, 1, 0, .null, [], 0), (10, .iload_n 3, 1, 3, 0, .null, [], 0), (11, .invokestatic 155, 3, 142, 2, .int 0, [], 890), (14, .istore 4, 2, 4, 0, .null, [], 0), (16, .aload_n 0, 1, 0, 0, .null, [], 0), (17, .getfield 23, 3, 6, 5, .null, [], 634), (20, .iload_n 3, 1, 3, 0, .null, [], 0), (21, .iaload, 1, 0, 0, .null, [], 0), (22, .aload_n 0, 1, 0, 0, .null, [], 0), (23, .getfield 61, 3, 6, 2, .null, [], 631), (26, .iand, 1, 0, 0, .null, [], 0), (27, .istore 5, 2, 5, 0, .null, [], 0), (29, .iload 4, 2, 4, 0, .null, [], 0), (31, .istore 6, 2, 6, 0, .null, [], 0), (33, .iconst (-1), 1, 0, 0, .int (-1), [], 0), (34, .istore 7, 2, 7, 0, .null, [], 0), (36, .iconst 0, 1, 0, 0, .int (0), [], 0), (37, .istore 8, 2, 8, 0, .null, [], 0), (39, .iload 8, 2, 8, 0, .null, [], 0), (41, .iconst 3, 1, 0, 0, .int (3), [], 0), (42, .if_icmp .ge 115, 3, 0, 157, .null, [], 0), (45, .iconst 0, 1, 0, 0, .int (0), [], 0), (46, .istore 9, 2, 9, 0, .null, [], 0), (48, .iconst 0, 1, 0, 0, .int (0), [], 0), (49, .istore 10, 2, 10, 0, .null, [], 0), (51, .iload 10, 2, 10, 0, .null, [], 0), (53, .bipush 7, 2, 0, 0, .int (7), [], 0), (55, .if_icmp .ge 40, 3, 0, 95, .null, [], 0), (58, .iload 9, 2, 9, 0, .null, [], 0), (60, .iload 5, 2, 5, 0, .null, [], 0), (62, .iload 10, 2, 10, 0, .null, [], 0), (64, .invokestatic 64, 3, 97, 2, .int 0, [], 732), (67, .ifCond .eq 18, 3, 0, 85, .null, [], 0), (70, .iload_n 1, 1, 1, 0, .null, [], 0), (71, .iload 10, 2, 10, 0, .null, [], 0), (73, .invokestatic 155, 3, 142, 2, .int 0, [], 890), (76, .iload 8, 2, 8, 0, .null, [], 0), (78, .if_icmp .ne 7, 3, 0, 85, .null, [], 0), (81, .iconst 1, 1, 0, 0, .int (1), [], 0), (82, .goto 4, 3, 0, 86, .null, [], 0), (85, .iconst 0, 1, 0, 0, .int (0), [], 0), (86, .iadd, 1, 0, 0, .null, [], 0), (87, .istore 9, 2, 9, 0, .null, [], 0), (89, .iinc 10 1, 3, 10, 0, .int (1), [], 0), (92, .goto (-41), 3, 0, 51, .null, [], 0), (95, .iload 9, 2, 9, 0, .null, [], 0), (97, .iload 7, 2, 7, 0, .null, [], 0), (99, .if_icmp .gt 17, 3, 0, 116, .null, [], 0), (102, .iload 9, 2, 9, 0, .null, [], 0), (104, .iload 7, 2, 7, 0, .null, [], 0), (106, .if_icmp .ne 14, 3, 0, 120, .null, [], 0), (109, .iload 8, 2, 8, 0, .null, [], 0), (111, .iload 4, 2, 4, 0, .null, [], 0), (113, .if_icmp .ne 7, 3, 0, 120, .null, [], 0)]
def am_r1_X6_yearOn : List AMrow := [(116, .iconst 1, 1, 0, 0, .int (1), [], 0), (117, .goto 4, 3, 0, 121, .null, [], 0), (120, .iconst 0, 1, 0, 0, .int (0), [], 0), (121, .istore 10, 2, 10, 0, .null, [], 0), (123, .iload 10, 2, 10, 0, .null, [], 0), (125, .ifCond .eq 8, 3, 0, 133, .null, [], 0), (128, .iload 8, 2, 8, 0, .null, [], 0), (130, .goto 5, 3, 0, 135, .null, [], 0), (133, .iload 6, 2, 6, 0, .null, [], 0), (135, .istore 6, 2, 6, 0, .null, [], 0), (137, .iload 10, 2, 10, 0, .null, [], 0), (139, .ifCond .eq 8, 3, 0, 147, .null, [], 0), (142, .iload 9, 2, 9, 0, .null, [], 0), (144, .goto 5, 3, 0, 149, .null, [], 0), (147, .iload 7, 2, 7, 0, .null, [], 0), (149, .istore 7, 2, 7, 0, .null, [], 0), (151, .iinc 8 1, 3, 8, 0, .int (1), [], 0), (154, .goto (-115), 3, 0, 39, .null, [], 0), (157, .iconst 3, 1, 0, 0, .int (3), [], 0), (158, .iload_n 2, 1, 2, 0, .null, [], 0), (159, .imul, 1, 0, 0, .null, [], 0), (160, .aload_n 0, 1, 0, 0, .null, [], 0), (161, .getfield 61, 3, 6, 2, .null, [], 631), (164, .iload_n 3, 1, 3, 0, .null, [], 0), (165, .invokestatic 64, 3, 97, 2, .int 0, [], 732), (168, .ifCond .eq 13, 3, 0, 181, .null, [], 0), (171, .iload 5, 2, 5, 0, .null, [], 0), (173, .ifCond .eq 8, 3, 0, 181, .null, [], 0), (176, .iload 6, 2, 6, 0, .null, [], 0), (178, .goto 5, 3, 0, 183, .null, [], 0), (181, .iload 4, 2, 4, 0, .null, [], 0), (183, .iadd, 1, 0, 0, .null, [], 0), (184, .istore_n 2, 1, 2, 0, .null, [], 0), (185, .iinc 3 (-1), 3, 3, 0, .int (-1), [], 0), (188, .goto (-183), 3, 0, 5, .null, [], 0), (191, .iload_n 2, 1, 2, 0, .null, [], 0), (192, .ireturn, 1, 0, 0, .null, [], 0)]
def AM_X6_yearOn : AMinfo := ((6, yX6_yearOn, cX6_yearOn, 11, (some .int)), am_r0_X6_yearOn ++ am_r1_X6_yearOn, (1, 23, false, false), (889, 888, 31, 1, 40, 2))
def am_r0_X6_settle : List AMrow := [(0, .aload_n 0, 1, 0, 0, .null, [], 0), (1, .iload_n 1, 1, 1, 0, .null, [], 0), (2, .invokevirtual 76, 3, 99, 2, .int 0, [], 728), (5, .ifCond .ne 5, 3, 0, 10, .null, [], 0), (8, .iconst (-1), 1, 0, 0, .int (-1), [], 0), (9, .ireturn, 1, 0, 0, .null, [], 0), (10, .iload_n 2, 1, 2, 0, .null, [], 0), (11, .iconst 0, 1, 0, 0, .int (0), [], 0), (12, .bipush 60, 2, 0, 0, .int (60), [], 0), (14, .invokestatic 57, 3, 96, 3, .int 0, [], 707), (17, .ifCond .ne 6, 3, 0, 23, .null, [], 0), (20, .bipush (-2), 2, 0, 0, .int (-2), [], 0), (22, .ireturn, 1, 0, 0, .null, [], 0), (23, .aload_n 0, 1, 0, 0, .null, [], 0), (24, .invokevirtual 158, 3, 141, 1, .int 0, [], 882), (27, .istore_n 3, 1, 3, 0, .null, [], 0), (28, .iconst 0, 1, 0, 0, .int (0), [], 0), (29, .istore 4, 2, 4, 0, .null, [], 0), (31, .iload 4, 2, 4, 0, .null, [], 0), (33, .iload_n 2, 1, 2, 0, .null, [], 0), (34, .if_icmp .ge 15, 3, 0, 49, .null, [], 0), (37, .aload_n 0, 1, 0, 0, .null, [], 0), (38, .iload_n 3, 1, 3, 0, .null, [], 0), (39, .invokevirtual 161, 3, 143, 2, .int 0, [], 886), (42, .istore_n 3, 1, 3, 0, .null, [], 0), (43, .iinc 4 1, 3, 4, 0, .int (1), [], 0), (46, .goto (-15), 3, 0, 31, .null, [], 0), (49, .iload_n 3, 1, 3, 0, .null, [], 0), (50, .iload_n 1, 1, 1, 0, .null, [], 0), (51, .invokestatic 155, 3, 142, 2, .int 0, [], 890), (54, .ireturn, 1, 0, 0, .null, [], 0)]
def AM_X6_settle : AMinfo := ((6, yX6_settle, cX6_settle, 5, (some .int)), am_r0_X6_settle, (2, 53, false, false), (881, 879, 880, 1, 40, 3))
def am_r0_X6_again : List AMrow := [(0, .iload_n 1, 1, 1, 0, .null, [], 0), (1, .iconst 0, 1, 0, 0, .int (0), [], 0), (2, .iconst 1, 1, 0, 0, .int (1), [], 0), (3, .invokestatic 57, 3, 96, 3, .int 0, [], 707), (6, .ifCond .ne 6, 3, 0, 12, .null, [], 0), (9, .bipush (-2), 2, 0, 0, .int (-2), [], 0), (11, .ireturn, 1, 0, 0, .null, [], 0), (12, .iconst 0, 1, 0, 0, .int (0), [], 0), (13, .istore_n 2, 1, 2, 0, .null, [], 0), (14, .iload_n 2, 1, 2, 0, .null, [], 0), (15, .sipush 2187, 3, 0, 0, .int (2187), [], 0), (18, .if_icmp .ge 16, 3, 0, 34, .null, [], 0), (21, .aload_n 0, 1, 0, 0, .null, [], 0), (22, .getfield 47, 3, 6, 21, .null, [], 650), (25, .iload_n 2, 1, 2, 0, .null, [], 0), (26, .iconst 0, 1, 0, 0, .int (0), [], 0), (27, .iastore, 1, 0, 0, .null, [], 0), (28, .iinc 2 1, 3, 2, 0, .int (1), [], 0), (31, .goto (-17), 3, 0, 14, .null, [], 0), (34, .aload_n 0, 1, 0, 0, .null, [], 0), (35, .invokevirtual 158, 3, 141, 1, .int 0, [], 882), (38, .istore_n 2, 1, 2, 0, .null, [], 0), (39, .iconst 0, 1, 0, 0, .int (0), [], 0), (40, .istore_n 3, 1, 3, 0, .null, [], 0), (41, .aload_n 0, 1, 0, 0, .null, [], 0), (42, .getfield 47, 3, 6, 21, .null, [], 650), (45, .iload_n 2, 1, 2, 0, .null, [], 0), (46, .iaload, 1, 0, 0, .null, [], 0), (47, .ifCond .ne 24, 3, 0, 71, .null, [], 0), (50, .aload_n 0, 1, 0, 0, .null, [], 0), (51, .getfield 47, 3, 6, 21, .null, [], 650), (54, .iload_n 2, 1, 2, 0, .null, [], 0), (55, .iload_n 3, 1, 3, 0, .null, [], 0), (56, .iconst 1, 1, 0, 0, .int (1), [], 0), (57, .iadd, 1, 0, 0, .null, [], 0), (58, .iastore, 1, 0, 0, .null, [], 0), (59, .aload_n 0, 1, 0, 0, .null, [], 0), (60, .iload_n 2, 1, 2, 0, .null, [], 0), (61, .invokevirtual 161, 3, 143, 2, .int 0, [], 886), (64, .istore_n 2, 1, 2, 0, .null, [], 0), (65, .iinc 3 1, 3, 3, 0, .int (1), [], 0), (68, .goto (-27), 3, 0, 41, .null, [], 0), (71, .iload_n 1, 1, 1, 0, .null, [], 0), (72, .ifCond .ne 7, 3, 0, 79, .null, [], 0), (75, .iload_n 3, 1, 3, 0, .null, [], 0), (76, .goto 13, 3, 0, 89, .null, [], 0), (79, .iload_n 3, 1, 3, 0, .null, [], 0), (80, .iconst 1, 1, 0, 0, .int (1), [], 0), (81, .iadd, 1, 0, 0, .null, [], 0), (82, .aload_n 0, 1, 0, 0, .null, [], 0), (83, .getfield 47, 3, 6, 21, .null, [], 650), (86, .iload_n 2, 1, 2, 0, .null, [], 0), (87, .iaload, 1, 0, 0, .null, [], 0), (88, .isub, 1, 0, 0, .null, [], 0), (89, .ireturn, 1, 0, 0, .null, [], 0)]
def AM_X6_again : AMinfo := ((6, yX6_again, cX6_again, 4, (some .int)), am_r0_X6_again, (2, 53, false, false), (896, 894, 895, 1, 40, 2))
def am_r0_X6_part : List AMrow := [(0, .lload_n 0, 1, 0, 0, .null, [], 0), (1, .lstore 5, 2, 5, 0, .null, [], 0), (3, .lload_n 2, 1, 2, 0, .null, [], 0), (4, .lstore 7, 2, 7, 0, .null, [], 0), (6, .lload 7, 2, 7, 0, .null, [], 0), (8, .lconst 0, 1, 0, 0, .long (0), [], 0), (9, .lcmp, 1, 0, 0, .null, [], 0), (10, .ifCond .eq 21, 3, 0, 31, .null, [], 0), (13, .lload 5, 2, 5, 0, .null, [], 0), (15, .lload 7, 2, 7, 0, .null, [], 0), (17, .lrem, 1, 0, 0, .null, [], 0), (18, .lstore 9, 2, 9, 0, .null, [], 0), (20, .lload 7, 2, 7, 0, .null, [], 0), (22, .lstore 5, 2, 5, 0, .null, [], 0), (24, .lload 9, 2, 9, 0, .null, [], 0), (26, .lstore 7, 2, 7, 0, .null, [], 0), (28, .goto (-22), 3, 0, 6, .null, [], 0), (31, .iload 4, 2, 4, 0, .null, [], 0), (33, .ifCond .ne 10, 3, 0, 43, .null, [], 0), (36, .lload_n 0, 1, 0, 0, .null, [], 0), (37, .lload 5, 2, 5, 0, .null, [], 0), (39, .ldiv, 1, 0, 0, .null, [], 0), (40, .goto 7, 3, 0, 47, .null, [], 0), (43, .lload_n 2, 1, 2, 0, .null, [], 0), (44, .lload 5, 2, 5, 0, .null, [], 0), (46, .ldiv, 1, 0, 0, .null, [], 0), (47, .lreturn, 1, 0, 0, .null, [], 0)]
def AM_X6_part : AMinfo := ((6, yX6_part, cX6_part, 11, (some .long)), am_r0_X6_part, (0, 0, false, false), (905, 904, 0, 0, 40, 3))
def am_r0_X6_climb : List AMrow := [(0, .iload_n 1, 1, 1, 0, .null, [], 0), (1, .iconst 0, 1, 0, 0, .int (0), [], 0), (2, .bipush 99, 2, 0, 0, .int (99), [], 0), (4, .invokestatic 57, 3, 96, 3, .int 0, [], 707), (7, .ifCond .eq 54, 3, 0, 61, .null, [], 0), (10, .iload_n 2, 1, 2, 0, .null, [], 0), (11, .iconst 0, 1, 0, 0, .int (0), [], 0), (12, .bipush 8, 2, 0, 0, .int (8), [], 0), (14, .invokestatic 57, 3, 96, 3, .int 0, [], 707), (17, .ifCond .eq 44, 3, 0, 61, .null, [], 0), (20, .iload_n 3, 1, 3, 0, .null, [], 0), (21, .iconst 1, 1, 0, 0, .int (1), [], 0), (22, .bipush 9, 2, 0, 0, .int (9), [], 0), (24, .invokestatic 57, 3, 96, 3, .int 0, [], 707), (27, .ifCond .eq 34, 3, 0, 61, .null, [], 0), (30, .iload 4, 2, 4, 0, .null, [], 0), (32, .iconst 0, 1, 0, 0, .int (0), [], 0), (33, .bipush 10, 2, 0, 0, .int (10), [], 0), (35, .invokestatic 57, 3, 96, 3, .int 0, [], 707), (38, .ifCond .eq 23, 3, 0, 61, .null, [], 0), (41, .iload 5, 2, 5, 0, .null, [], 0), (43, .iconst 0, 1, 0, 0, .int (0), [], 0), (44, .iconst 1, 1, 0, 0, .int (1), [], 0), (45, .invokestatic 57, 3, 96, 3, .int 0, [], 707), (48, .ifCond .eq 13, 3, 0, 61, .null, [], 0), (51, .iload 6, 2, 6, 0, .null, [], 0), (53, .iconst 0, 1, 0, 0, .int (0), [], 0), (54, .iconst 1, 1, 0, 0, .int (1), [], 0), (55, .invokestatic 57, 3, 96, 3, .int 0, [], 707), (58, .ifCond .ne 7, 3, 0, 65, .null, [], 0), (61, .ldc2_w 164, 3, 0, 0, .long (-1000000000000000002), [], 901), (64, .lreturn, 1, 0, 0, .null, [], 0), (65, .iload_n 1, 1, 1, 0, .null, [], 0), (66, .iload_n 2, 1, 2, 0, .null, [], 0), (67, .iload_n 3, 1, 3, 0, .null, [], 0), (68, .imul, 1, 0, 0, .null, [], 0), (69, .iadd, 1, 0, 0, .null, [], 0), (70, .i2l, 1, 0, 0, .null, [], 0), (71, .lstore 7, 2, 7, 0, .null, [], 0), (73, .lconst 1, 1, 0, 0, .long (1), [], 0), (74, .lstore 9, 2, 9, 0, .null, [], 0), (76, .iconst 0, 1, 0, 0, .int (0), [], 0), (77, .istore 11, 2, 11, 0, .null, [], 0), (79, .iload_n 2, 1, 2, 0, .null, [], 0), (80, .iconst 1, 1, 0, 0, .int (1), [], 0), (81, .isub, 1, 0, 0, .null, [], 0), (82, .istore 12, 2, 12, 0, .null, [], 0), (84, .iload 12, 2, 12, 0, .null, [], 0), (86, .ifCond .lt 69, 3, 0, 155, .null, [], 0), (89, .lload 9, 2, 9, 0, .null, [], 0), (91, .ldc2_w 166, 3, 0, 0, .long (10), [], 902), (94, .lmul, 1, 0, 0, .null, [], 0), (95, .lstore 9, 2, 9, 0, .null, [], 0), (97, .iload_n 1, 1, 1, 0, .null, [], 0), (98, .iload 12, 2, 12, 0, .null, [], 0), (100, .iload_n 3, 1, 3, 0, .null, [], 0), (101, .imul, 1, 0, 0, .null, [], 0), (102, .iadd, 1, 0, 0, .null, [], 0), (103, .i2l, 1, 0, 0, .null, [], 0), (104, .lload 9, 2, 9, 0, .null, [], 0)]
def am_r1_X6_climb : List AMrow := [(106, .lmul, 1, 0, 0, .null, [], 0), (107, .lstore 13, 2, 13, 0, .null, [], 0), (109, .bipush 10, 2, 0, 0, .int (10), [], 0), (111, .iload 4, 2, 4, 0, .null, [], 0), (113, .isub, 1, 0, 0, .null, [], 0), (114, .i2l, 1, 0, 0, .null, [], 0), (115, .lload 7, 2, 7, 0, .null, [], 0), (117, .lmul, 1, 0, 0, .null, [], 0), (118, .lstore 15, 2, 15, 0, .null, [], 0), (120, .lload 15, 2, 15, 0, .null, [], 0), (122, .lload 13, 2, 13, 0, .null, [], 0), (124, .lcmp, 1, 0, 0, .null, [], 0), (125, .ifCond .le 7, 3, 0, 132, .null, [], 0), (128, .iconst 1, 1, 0, 0, .int (1), [], 0), (129, .goto 4, 3, 0, 133, .null, [], 0), (132, .iconst 0, 1, 0, 0, .int (0), [], 0), (133, .istore 11, 2, 11, 0, .null, [], 0), (135, .iload 11, 2, 11, 0, .null, [], 0), (137, .ifCond .eq 8, 3, 0, 145, .null, [], 0), (140, .lload 15, 2, 15, 0, .null, [], 0), (142, .goto 5, 3, 0, 147, .null, [], 0), (145, .lload 13, 2, 13, 0, .null, [], 0), (147, .lstore 7, 2, 7, 0, .null, [], 0), (149, .iinc 12 (-1), 3, 12, 0, .int (-1), [], 0), (152, .goto (-68), 3, 0, 84, .null, [], 0), (155, .iload 5, 2, 5, 0, .null, [], 0), (157, .iconst 1, 1, 0, 0, .int (1), [], 0), (158, .if_icmp .ne 16, 3, 0, 174, .null, [], 0), (161, .iload 11, 2, 11, 0, .null, [], 0), (163, .ifCond .eq 7, 3, 0, 170, .null, [], 0), (166, .lconst 1, 1, 0, 0, .long (1), [], 0), (167, .goto 16, 3, 0, 183, .null, [], 0), (170, .lconst 0, 1, 0, 0, .long (0), [], 0), (171, .goto 12, 3, 0, 183, .null, [], 0), (174, .lload 7, 2, 7, 0, .null, [], 0), (176, .lload 9, 2, 9, 0, .null, [], 0), (178, .iload 6, 2, 6, 0, .null, [], 0), (180, .invokestatic 168, 3, 146, 3, .int 0, [], 903), (183, .lreturn, 1, 0, 0, .null, [], 0)]
def AM_X6_climb : AMinfo := ((6, yX6_climb, cX6_climb, 17, (some .long)), am_r0_X6_climb ++ am_r1_X6_climb, (1, 30, false, false), (900, 898, 899, 1, 40, 7))
def am_r0_X6_book : List AMrow := [(0, .iload_n 1, 1, 1, 0, .null, [], 0), (1, .iconst 0, 1, 0, 0, .int (0), [], 0), (2, .sipush 9999, 3, 0, 0, .int (9999), [], 0), (5, .invokestatic 57, 3, 96, 3, .int 0, [], 707), (8, .ifCond .eq 22, 3, 0, 30, .null, [], 0), (11, .iload_n 2, 1, 2, 0, .null, [], 0), (12, .iconst 1, 1, 0, 0, .int (1), [], 0), (13, .bipush 99, 2, 0, 0, .int (99), [], 0), (15, .invokestatic 57, 3, 96, 3, .int 0, [], 707), (18, .ifCond .eq 12, 3, 0, 30, .null, [], 0), (21, .iload_n 3, 1, 3, 0, .null, [], 0), (22, .iconst 0, 1, 0, 0, .int (0), [], 0), (23, .iconst 2, 1, 0, 0, .int (2), [], 0), (24, .invokestatic 57, 3, 96, 3, .int 0, [], 707), (27, .ifCond .ne 6, 3, 0, 33, .null, [], 0), (30, .bipush (-2), 2, 0, 0, .int (-2), [], 0), (32, .ireturn, 1, 0, 0, .null, [], 0), (33, .aload_n 0, 1, 0, 0, .null, [], 0), (34, .invokevirtual 104, 3, 113, 1, .int 0, [], 770), (37, .iload_n 1, 1, 1, 0, .null, [], 0), (38, .istore 4, 2, 4, 0, .null, [], 0), (40, .iconst 0, 1, 0, 0, .int (0), [], 0), (41, .istore 5, 2, 5, 0, .null, [], 0), (43, .iload 5, 2, 5, 0, .null, [], 0), (45, .iload_n 2, 1, 2, 0, .null, [], 0), (46, .if_icmp .ge 116, 3, 0, 162, .null, [], 0), (49, .bipush 75, 2, 0, 0, .int (75), [], 0), (51, .iload 4, 2, 4, 0, .null, [], 0), (53, .imul, 1, 0, 0, .null, [], 0), (54, .bipush 74, 2, 0, 0, .int (74), [], 0), (56, .iadd, 1, 0, 0, .null, [], 0), (57, .ldc 172, 2, 0, 0, .int (65537), [], 910), (59, .irem, 1, 0, 0, .null, [], 0), (60, .istore 4, 2, 4, 0, .null, [], 0), (62, .iload 4, 2, 4, 0, .null, [], 0), (64, .bipush 8, 2, 0, 0, .int (8), [], 0), (66, .irem, 1, 0, 0, .null, [], 0), (67, .istore 6, 2, 6, 0, .null, [], 0), (69, .iload 4, 2, 4, 0, .null, [], 0), (71, .bipush 8, 2, 0, 0, .int (8), [], 0), (73, .idiv, 1, 0, 0, .null, [], 0), (74, .bipush 7, 2, 0, 0, .int (7), [], 0), (76, .irem, 1, 0, 0, .null, [], 0), (77, .istore 7, 2, 7, 0, .null, [], 0), (79, .iload 6, 2, 6, 0, .null, [], 0), (81, .iconst 3, 1, 0, 0, .int (3), [], 0), (82, .if_icmp .ge 21, 3, 0, 103, .null, [], 0), (85, .aload_n 0, 1, 0, 0, .null, [], 0), (86, .iload 7, 2, 7, 0, .null, [], 0), (88, .iload 4, 2, 4, 0, .null, [], 0), (90, .bipush 56, 2, 0, 0, .int (56), [], 0), (92, .idiv, 1, 0, 0, .null, [], 0), (93, .bipush 8, 2, 0, 0, .int (8), [], 0), (95, .irem, 1, 0, 0, .null, [], 0), (96, .invokevirtual 126, 3, 114, 3, .int 0, [], 794), (99, .pop, 1, 0, 0, .null, [], 0), (100, .goto 56, 3, 0, 156, .null, [], 0), (103, .iload 6, 2, 6, 0, .null, [], 0), (105, .bipush 6, 2, 0, 0, .int (6), [], 0), (107, .if_icmp .ge 21, 3, 0, 128, .null, [], 0)]
def am_r1_X6_book : List AMrow := [(110, .aload_n 0, 1, 0, 0, .null, [], 0), (111, .iload 7, 2, 7, 0, .null, [], 0), (113, .iload 4, 2, 4, 0, .null, [], 0), (115, .bipush 56, 2, 0, 0, .int (56), [], 0), (117, .idiv, 1, 0, 0, .null, [], 0), (118, .bipush 8, 2, 0, 0, .int (8), [], 0), (120, .irem, 1, 0, 0, .null, [], 0), (121, .invokevirtual 119, 3, 115, 3, .int 0, [], 782), (124, .pop, 1, 0, 0, .null, [], 0), (125, .goto 31, 3, 0, 156, .null, [], 0), (128, .iload 6, 2, 6, 0, .null, [], 0), (130, .bipush 6, 2, 0, 0, .int (6), [], 0), (132, .if_icmp .ne 10, 3, 0, 142, .null, [], 0), (135, .aload_n 0, 1, 0, 0, .null, [], 0), (136, .invokevirtual 116, 3, 117, 1, .int 0, [], 778), (139, .goto 17, 3, 0, 156, .null, [], 0), (142, .aload_n 0, 1, 0, 0, .null, [], 0), (143, .iload 7, 2, 7, 0, .null, [], 0), (145, .iload 4, 2, 4, 0, .null, [], 0), (147, .bipush 56, 2, 0, 0, .int (56), [], 0), (149, .idiv, 1, 0, 0, .null, [], 0), (150, .iconst 3, 1, 0, 0, .int (3), [], 0), (151, .irem, 1, 0, 0, .null, [], 0), (152, .invokevirtual 123, 3, 116, 3, .int 0, [], 790), (155, .pop, 1, 0, 0, .null, [], 0), (156, .iinc 5 1, 3, 5, 0, .int (1), [], 0), (159, .goto (-116), 3, 0, 43, .null, [], 0), (162, .iconst 0, 1, 0, 0, .int (0), [], 0), (163, .istore 5, 2, 5, 0, .null, [], 0), (165, .iconst 0, 1, 0, 0, .int (0), [], 0), (166, .istore 6, 2, 6, 0, .null, [], 0), (168, .iload 6, 2, 6, 0, .null, [], 0), (170, .bipush 7, 2, 0, 0, .int (7), [], 0), (172, .if_icmp .ge 40, 3, 0, 212, .null, [], 0), (175, .iload 5, 2, 5, 0, .null, [], 0), (177, .aload_n 0, 1, 0, 0, .null, [], 0), (178, .getfield 61, 3, 6, 2, .null, [], 631), (181, .iload 6, 2, 6, 0, .null, [], 0), (183, .invokestatic 64, 3, 97, 2, .int 0, [], 732), (186, .ifCond .eq 16, 3, 0, 202, .null, [], 0), (189, .aload_n 0, 1, 0, 0, .null, [], 0), (190, .getfield 13, 3, 6, 1, .null, [], 630), (193, .bipush 7, 2, 0, 0, .int (7), [], 0), (195, .iload 6, 2, 6, 0, .null, [], 0), (197, .iadd, 1, 0, 0, .null, [], 0), (198, .iaload, 1, 0, 0, .null, [], 0), (199, .goto 4, 3, 0, 203, .null, [], 0), (202, .iconst 0, 1, 0, 0, .int (0), [], 0), (203, .iadd, 1, 0, 0, .null, [], 0), (204, .istore 5, 2, 5, 0, .null, [], 0), (206, .iinc 6 1, 3, 6, 0, .int (1), [], 0), (209, .goto (-41), 3, 0, 168, .null, [], 0), (212, .iload_n 3, 1, 3, 0, .null, [], 0), (213, .ifCond .ne 16, 3, 0, 229, .null, [], 0), (216, .aload_n 0, 1, 0, 0, .null, [], 0), (217, .getfield 13, 3, 6, 1, .null, [], 630), (220, .bipush 30, 2, 0, 0, .int (30), [], 0), (222, .iaload, 1, 0, 0, .null, [], 0), (223, .invokestatic 72, 3, 98, 1, .int 0, [], 721), (226, .goto 17, 3, 0, 243, .null, [], 0)]
def am_r2_X6_book : List AMrow := [(229, .iload_n 3, 1, 3, 0, .null, [], 0), (230, .iconst 1, 1, 0, 0, .int (1), [], 0), (231, .if_icmp .ne 10, 3, 0, 241, .null, [], 0), (234, .aload_n 0, 1, 0, 0, .null, [], 0), (235, .getfield 92, 3, 6, 14, .null, [], 643), (238, .goto 5, 3, 0, 243, .null, [], 0), (241, .iload 5, 2, 5, 0, .null, [], 0), (243, .ireturn, 1, 0, 0, .null, [], 0)]
def AM_X6_book : AMinfo := ((6, yX6_book, cX6_book, 8, (some .int)), am_r0_X6_book ++ am_r1_X6_book ++ am_r2_X6_book, (3, 66, false, false), (909, 907, 908, 1, 40, 4))
def am_r0_X6_image : List AMrow := [(0, .iload_n 1, 1, 1, 0, .null, [], 0), (1, .iconst 0, 1, 0, 0, .int (0), [], 0), (2, .iconst 1, 1, 0, 0, .int (1), [], 0), (3, .invokestatic 57, 3, 96, 3, .int 0, [], 707), (6, .ifCond .ne 6, 3, 0, 12, .null, [], 0), (9, .bipush (-2), 2, 0, 0, .int (-2), [], 0), (11, .ireturn, 1, 0, 0, .null, [], 0), (12, .bipush 110, 2, 0, 0, .int (110), [], 0), (14, .iload_n 1, 1, 1, 0, .null, [], 0), (15, .imul, 1, 0, 0, .null, [], 0), (16, .istore_n 2, 1, 2, 0, .null, [], 0), (17, .iconst 0, 1, 0, 0, .int (0), [], 0), (18, .istore_n 3, 1, 3, 0, .null, [], 0), (19, .iload_n 3, 1, 3, 0, .null, [], 0), (20, .bipush 32, 2, 0, 0, .int (32), [], 0), (22, .if_icmp .ge 23, 3, 0, 45, .null, [], 0), (25, .aload_n 0, 1, 0, 0, .null, [], 0), (26, .getfield 50, 3, 6, 22, .null, [], 651), (29, .iload_n 2, 1, 2, 0, .null, [], 0), (30, .iload_n 3, 1, 3, 0, .null, [], 0), (31, .iadd, 1, 0, 0, .null, [], 0), (32, .aload_n 0, 1, 0, 0, .null, [], 0), (33, .getfield 7, 3, 6, 0, .null, [], 629), (36, .iload_n 3, 1, 3, 0, .null, [], 0), (37, .iaload, 1, 0, 0, .null, [], 0), (38, .iastore, 1, 0, 0, .null, [], 0), (39, .iinc 3 1, 3, 3, 0, .int (1), [], 0), (42, .goto (-23), 3, 0, 19, .null, [], 0), (45, .iconst 0, 1, 0, 0, .int (0), [], 0), (46, .istore_n 3, 1, 3, 0, .null, [], 0), (47, .iload_n 3, 1, 3, 0, .null, [], 0), (48, .bipush 12, 2, 0, 0, .int (12), [], 0), (50, .if_icmp .ge 60, 3, 0, 110, .null, [], 0), (53, .aload_n 0, 1, 0, 0, .null, [], 0), (54, .getfield 50, 3, 6, 22, .null, [], 651), (57, .iload_n 2, 1, 2, 0, .null, [], 0), (58, .bipush 32, 2, 0, 0, .int (32), [], 0), (60, .iadd, 1, 0, 0, .null, [], 0), (61, .iload_n 3, 1, 3, 0, .null, [], 0), (62, .iadd, 1, 0, 0, .null, [], 0), (63, .aload_n 0, 1, 0, 0, .null, [], 0), (64, .getfield 26, 3, 6, 7, .null, [], 636), (67, .iload_n 3, 1, 3, 0, .null, [], 0), (68, .iaload, 1, 0, 0, .null, [], 0), (69, .iastore, 1, 0, 0, .null, [], 0), (70, .aload_n 0, 1, 0, 0, .null, [], 0), (71, .getfield 50, 3, 6, 22, .null, [], 651), (74, .iload_n 2, 1, 2, 0, .null, [], 0), (75, .bipush 44, 2, 0, 0, .int (44), [], 0), (77, .iadd, 1, 0, 0, .null, [], 0), (78, .iload_n 3, 1, 3, 0, .null, [], 0), (79, .iadd, 1, 0, 0, .null, [], 0), (80, .aload_n 0, 1, 0, 0, .null, [], 0), (81, .getfield 29, 3, 6, 8, .null, [], 637), (84, .iload_n 3, 1, 3, 0, .null, [], 0), (85, .iaload, 1, 0, 0, .null, [], 0), (86, .iastore, 1, 0, 0, .null, [], 0), (87, .aload_n 0, 1, 0, 0, .null, [], 0), (88, .getfield 50, 3, 6, 22, .null, [], 651), (91, .iload_n 2, 1, 2, 0, .null, [], 0)]
def am_r1_X6_image : List AMrow := [(92, .bipush 56, 2, 0, 0, .int (56), [], 0), (94, .iadd, 1, 0, 0, .null, [], 0), (95, .iload_n 3, 1, 3, 0, .null, [], 0), (96, .iadd, 1, 0, 0, .null, [], 0), (97, .aload_n 0, 1, 0, 0, .null, [], 0), (98, .getfield 32, 3, 6, 9, .null, [], 638), (101, .iload_n 3, 1, 3, 0, .null, [], 0), (102, .iaload, 1, 0, 0, .null, [], 0), (103, .iastore, 1, 0, 0, .null, [], 0), (104, .iinc 3 1, 3, 3, 0, .int (1), [], 0), (107, .goto (-60), 3, 0, 47, .null, [], 0), (110, .iconst 0, 1, 0, 0, .int (0), [], 0), (111, .istore_n 3, 1, 3, 0, .null, [], 0), (112, .iload_n 3, 1, 3, 0, .null, [], 0), (113, .bipush 16, 2, 0, 0, .int (16), [], 0), (115, .if_icmp .ge 26, 3, 0, 141, .null, [], 0), (118, .aload_n 0, 1, 0, 0, .null, [], 0), (119, .getfield 50, 3, 6, 22, .null, [], 651), (122, .iload_n 2, 1, 2, 0, .null, [], 0), (123, .bipush 68, 2, 0, 0, .int (68), [], 0), (125, .iadd, 1, 0, 0, .null, [], 0), (126, .iload_n 3, 1, 3, 0, .null, [], 0), (127, .iadd, 1, 0, 0, .null, [], 0), (128, .aload_n 0, 1, 0, 0, .null, [], 0), (129, .getfield 35, 3, 6, 11, .null, [], 640), (132, .iload_n 3, 1, 3, 0, .null, [], 0), (133, .iaload, 1, 0, 0, .null, [], 0), (134, .iastore, 1, 0, 0, .null, [], 0), (135, .iinc 3 1, 3, 3, 0, .int (1), [], 0), (138, .goto (-26), 3, 0, 112, .null, [], 0), (141, .iconst 0, 1, 0, 0, .int (0), [], 0), (142, .istore_n 3, 1, 3, 0, .null, [], 0), (143, .iload_n 3, 1, 3, 0, .null, [], 0), (144, .bipush 7, 2, 0, 0, .int (7), [], 0), (146, .if_icmp .ge 26, 3, 0, 172, .null, [], 0), (149, .aload_n 0, 1, 0, 0, .null, [], 0), (150, .getfield 50, 3, 6, 22, .null, [], 651), (153, .iload_n 2, 1, 2, 0, .null, [], 0), (154, .bipush 84, 2, 0, 0, .int (84), [], 0), (156, .iadd, 1, 0, 0, .null, [], 0), (157, .iload_n 3, 1, 3, 0, .null, [], 0), (158, .iadd, 1, 0, 0, .null, [], 0), (159, .aload_n 0, 1, 0, 0, .null, [], 0), (160, .getfield 23, 3, 6, 5, .null, [], 634), (163, .iload_n 3, 1, 3, 0, .null, [], 0), (164, .iaload, 1, 0, 0, .null, [], 0), (165, .iastore, 1, 0, 0, .null, [], 0), (166, .iinc 3 1, 3, 3, 0, .int (1), [], 0), (169, .goto (-26), 3, 0, 143, .null, [], 0), (172, .iconst 0, 1, 0, 0, .int (0), [], 0), (173, .istore_n 3, 1, 3, 0, .null, [], 0), (174, .iload_n 3, 1, 3, 0, .null, [], 0), (175, .iconst 3, 1, 0, 0, .int (3), [], 0), (176, .if_icmp .ge 26, 3, 0, 202, .null, [], 0), (179, .aload_n 0, 1, 0, 0, .null, [], 0), (180, .getfield 50, 3, 6, 22, .null, [], 651), (183, .iload_n 2, 1, 2, 0, .null, [], 0), (184, .bipush 91, 2, 0, 0, .int (91), [], 0), (186, .iadd, 1, 0, 0, .null, [], 0), (187, .iload_n 3, 1, 3, 0, .null, [], 0)]
def am_r2_X6_image : List AMrow := [(188, .iadd, 1, 0, 0, .null, [], 0), (189, .aload_n 0, 1, 0, 0, .null, [], 0), (190, .getfield 16, 3, 6, 3, .null, [], 632), (193, .iload_n 3, 1, 3, 0, .null, [], 0), (194, .iaload, 1, 0, 0, .null, [], 0), (195, .iastore, 1, 0, 0, .null, [], 0), (196, .iinc 3 1, 3, 3, 0, .int (1), [], 0), (199, .goto (-25), 3, 0, 174, .null, [], 0), (202, .aload_n 0, 1, 0, 0, .null, [], 0), (203, .getfield 50, 3, 6, 22, .null, [], 651), (206, .iload_n 2, 1, 2, 0, .null, [], 0), (207, .bipush 100, 2, 0, 0, .int (100), [], 0), (209, .iadd, 1, 0, 0, .null, [], 0), (210, .aload_n 0, 1, 0, 0, .null, [], 0), (211, .getfield 61, 3, 6, 2, .null, [], 631), (214, .iastore, 1, 0, 0, .null, [], 0), (215, .aload_n 0, 1, 0, 0, .null, [], 0), (216, .getfield 50, 3, 6, 22, .null, [], 651), (219, .iload_n 2, 1, 2, 0, .null, [], 0), (220, .bipush 101, 2, 0, 0, .int (101), [], 0), (222, .iadd, 1, 0, 0, .null, [], 0), (223, .aload_n 0, 1, 0, 0, .null, [], 0), (224, .getfield 19, 3, 6, 4, .null, [], 633), (227, .iastore, 1, 0, 0, .null, [], 0), (228, .aload_n 0, 1, 0, 0, .null, [], 0), (229, .getfield 50, 3, 6, 22, .null, [], 651), (232, .iload_n 2, 1, 2, 0, .null, [], 0), (233, .bipush 102, 2, 0, 0, .int (102), [], 0), (235, .iadd, 1, 0, 0, .null, [], 0), (236, .aload_n 0, 1, 0, 0, .null, [], 0), (237, .getfield 82, 3, 6, 6, .null, [], 635), (240, .iastore, 1, 0, 0, .null, [], 0), (241, .aload_n 0, 1, 0, 0, .null, [], 0), (242, .getfield 50, 3, 6, 22, .null, [], 651), (245, .iload_n 2, 1, 2, 0, .null, [], 0), (246, .bipush 103, 2, 0, 0, .int (103), [], 0), (248, .iadd, 1, 0, 0, .null, [], 0), (249, .aload_n 0, 1, 0, 0, .null, [], 0), (250, .getfield 146, 3, 6, 10, .null, [], 639), (253, .iastore, 1, 0, 0, .null, [], 0), (254, .aload_n 0, 1, 0, 0, .null, [], 0), (255, .getfield 53, 3, 6, 23, .null, [], 652), (258, .iload_n 1, 1, 1, 0, .null, [], 0), (259, .iconst 1, 1, 0, 0, .int (1), [], 0), (260, .bastore, 1, 0, 0, .null, [], 0), (261, .iconst 1, 1, 0, 0, .int (1), [], 0), (262, .ireturn, 1, 0, 0, .null, [], 0)]
def AM_X6_image : AMinfo := ((6, yX6_image, cX6_image, 4, (some .int)), am_r0_X6_image ++ am_r1_X6_image ++ am_r2_X6_image, (1, 22, false, false), (914, 912, 913, 1, 40, 2))
def am_r0_X6_restore : List AMrow := [(0, .iload_n 1, 1, 1, 0, .null, [], 0), (1, .iconst 0, 1, 0, 0, .int (0), [], 0), (2, .iconst 1, 1, 0, 0, .int (1), [], 0), (3, .invokestatic 57, 3, 96, 3, .int 0, [], 707), (6, .ifCond .ne 6, 3, 0, 12, .null, [], 0), (9, .bipush (-2), 2, 0, 0, .int (-2), [], 0), (11, .ireturn, 1, 0, 0, .null, [], 0), (12, .aload_n 0, 1, 0, 0, .null, [], 0), (13, .getfield 53, 3, 6, 23, .null, [], 652), (16, .iload_n 1, 1, 1, 0, .null, [], 0), (17, .baload, 1, 0, 0, .null, [], 0), (18, .ifCond .ne 6, 3, 0, 24, .null, [], 0), (21, .bipush (-3), 2, 0, 0, .int (-3), [], 0), (23, .ireturn, 1, 0, 0, .null, [], 0), (24, .bipush 110, 2, 0, 0, .int (110), [], 0), (26, .iload_n 1, 1, 1, 0, .null, [], 0), (27, .imul, 1, 0, 0, .null, [], 0), (28, .istore_n 2, 1, 2, 0, .null, [], 0), (29, .iconst 0, 1, 0, 0, .int (0), [], 0), (30, .istore_n 3, 1, 3, 0, .null, [], 0), (31, .iload_n 3, 1, 3, 0, .null, [], 0), (32, .bipush 32, 2, 0, 0, .int (32), [], 0), (34, .if_icmp .ge 23, 3, 0, 57, .null, [], 0), (37, .aload_n 0, 1, 0, 0, .null, [], 0), (38, .getfield 7, 3, 6, 0, .null, [], 629), (41, .iload_n 3, 1, 3, 0, .null, [], 0), (42, .aload_n 0, 1, 0, 0, .null, [], 0), (43, .getfield 50, 3, 6, 22, .null, [], 651), (46, .iload_n 2, 1, 2, 0, .null, [], 0), (47, .iload_n 3, 1, 3, 0, .null, [], 0), (48, .iadd, 1, 0, 0, .null, [], 0), (49, .iaload, 1, 0, 0, .null, [], 0), (50, .iastore, 1, 0, 0, .null, [], 0), (51, .iinc 3 1, 3, 3, 0, .int (1), [], 0), (54, .goto (-23), 3, 0, 31, .null, [], 0), (57, .iconst 0, 1, 0, 0, .int (0), [], 0), (58, .istore_n 3, 1, 3, 0, .null, [], 0), (59, .iload_n 3, 1, 3, 0, .null, [], 0), (60, .bipush 12, 2, 0, 0, .int (12), [], 0), (62, .if_icmp .ge 60, 3, 0, 122, .null, [], 0), (65, .aload_n 0, 1, 0, 0, .null, [], 0), (66, .getfield 26, 3, 6, 7, .null, [], 636), (69, .iload_n 3, 1, 3, 0, .null, [], 0), (70, .aload_n 0, 1, 0, 0, .null, [], 0), (71, .getfield 50, 3, 6, 22, .null, [], 651), (74, .iload_n 2, 1, 2, 0, .null, [], 0), (75, .bipush 32, 2, 0, 0, .int (32), [], 0), (77, .iadd, 1, 0, 0, .null, [], 0), (78, .iload_n 3, 1, 3, 0, .null, [], 0), (79, .iadd, 1, 0, 0, .null, [], 0), (80, .iaload, 1, 0, 0, .null, [], 0), (81, .iastore, 1, 0, 0, .null, [], 0), (82, .aload_n 0, 1, 0, 0, .null, [], 0), (83, .getfield 29, 3, 6, 8, .null, [], 637), (86, .iload_n 3, 1, 3, 0, .null, [], 0), (87, .aload_n 0, 1, 0, 0, .null, [], 0), (88, .getfield 50, 3, 6, 22, .null, [], 651), (91, .iload_n 2, 1, 2, 0, .null, [], 0), (92, .bipush 44, 2, 0, 0, .int (44), [], 0), (94, .iadd, 1, 0, 0, .null, [], 0)]
def am_r1_X6_restore : List AMrow := [(95, .iload_n 3, 1, 3, 0, .null, [], 0), (96, .iadd, 1, 0, 0, .null, [], 0), (97, .iaload, 1, 0, 0, .null, [], 0), (98, .iastore, 1, 0, 0, .null, [], 0), (99, .aload_n 0, 1, 0, 0, .null, [], 0), (100, .getfield 32, 3, 6, 9, .null, [], 638), (103, .iload_n 3, 1, 3, 0, .null, [], 0), (104, .aload_n 0, 1, 0, 0, .null, [], 0), (105, .getfield 50, 3, 6, 22, .null, [], 651), (108, .iload_n 2, 1, 2, 0, .null, [], 0), (109, .bipush 56, 2, 0, 0, .int (56), [], 0), (111, .iadd, 1, 0, 0, .null, [], 0), (112, .iload_n 3, 1, 3, 0, .null, [], 0), (113, .iadd, 1, 0, 0, .null, [], 0), (114, .iaload, 1, 0, 0, .null, [], 0), (115, .iastore, 1, 0, 0, .null, [], 0), (116, .iinc 3 1, 3, 3, 0, .int (1), [], 0), (119, .goto (-60), 3, 0, 59, .null, [], 0), (122, .iconst 0, 1, 0, 0, .int (0), [], 0), (123, .istore_n 3, 1, 3, 0, .null, [], 0), (124, .iload_n 3, 1, 3, 0, .null, [], 0), (125, .bipush 16, 2, 0, 0, .int (16), [], 0), (127, .if_icmp .ge 26, 3, 0, 153, .null, [], 0), (130, .aload_n 0, 1, 0, 0, .null, [], 0), (131, .getfield 35, 3, 6, 11, .null, [], 640), (134, .iload_n 3, 1, 3, 0, .null, [], 0), (135, .aload_n 0, 1, 0, 0, .null, [], 0), (136, .getfield 50, 3, 6, 22, .null, [], 651), (139, .iload_n 2, 1, 2, 0, .null, [], 0), (140, .bipush 68, 2, 0, 0, .int (68), [], 0), (142, .iadd, 1, 0, 0, .null, [], 0), (143, .iload_n 3, 1, 3, 0, .null, [], 0), (144, .iadd, 1, 0, 0, .null, [], 0), (145, .iaload, 1, 0, 0, .null, [], 0), (146, .iastore, 1, 0, 0, .null, [], 0), (147, .iinc 3 1, 3, 3, 0, .int (1), [], 0), (150, .goto (-26), 3, 0, 124, .null, [], 0), (153, .iconst 0, 1, 0, 0, .int (0), [], 0), (154, .istore_n 3, 1, 3, 0, .null, [], 0), (155, .iload_n 3, 1, 3, 0, .null, [], 0), (156, .bipush 7, 2, 0, 0, .int (7), [], 0), (158, .if_icmp .ge 26, 3, 0, 184, .null, [], 0), (161, .aload_n 0, 1, 0, 0, .null, [], 0), (162, .getfield 23, 3, 6, 5, .null, [], 634), (165, .iload_n 3, 1, 3, 0, .null, [], 0), (166, .aload_n 0, 1, 0, 0, .null, [], 0), (167, .getfield 50, 3, 6, 22, .null, [], 651), (170, .iload_n 2, 1, 2, 0, .null, [], 0), (171, .bipush 84, 2, 0, 0, .int (84), [], 0), (173, .iadd, 1, 0, 0, .null, [], 0), (174, .iload_n 3, 1, 3, 0, .null, [], 0), (175, .iadd, 1, 0, 0, .null, [], 0), (176, .iaload, 1, 0, 0, .null, [], 0), (177, .iastore, 1, 0, 0, .null, [], 0), (178, .iinc 3 1, 3, 3, 0, .int (1), [], 0), (181, .goto (-26), 3, 0, 155, .null, [], 0), (184, .iconst 0, 1, 0, 0, .int (0), [], 0), (185, .istore_n 3, 1, 3, 0, .null, [], 0), (186, .iload_n 3, 1, 3, 0, .null, [], 0), (187, .iconst 3, 1, 0, 0, .int (3), [], 0)]
def am_r2_X6_restore : List AMrow := [(188, .if_icmp .ge 26, 3, 0, 214, .null, [], 0), (191, .aload_n 0, 1, 0, 0, .null, [], 0), (192, .getfield 16, 3, 6, 3, .null, [], 632), (195, .iload_n 3, 1, 3, 0, .null, [], 0), (196, .aload_n 0, 1, 0, 0, .null, [], 0), (197, .getfield 50, 3, 6, 22, .null, [], 651), (200, .iload_n 2, 1, 2, 0, .null, [], 0), (201, .bipush 91, 2, 0, 0, .int (91), [], 0), (203, .iadd, 1, 0, 0, .null, [], 0), (204, .iload_n 3, 1, 3, 0, .null, [], 0), (205, .iadd, 1, 0, 0, .null, [], 0), (206, .iaload, 1, 0, 0, .null, [], 0), (207, .iastore, 1, 0, 0, .null, [], 0), (208, .iinc 3 1, 3, 3, 0, .int (1), [], 0), (211, .goto (-25), 3, 0, 186, .null, [], 0), (214, .aload_n 0, 1, 0, 0, .null, [], 0), (215, .aload_n 0, 1, 0, 0, .null, [], 0), (216, .getfield 50, 3, 6, 22, .null, [], 651), (219, .iload_n 2, 1, 2, 0, .null, [], 0), (220, .bipush 100, 2, 0, 0, .int (100), [], 0), (222, .iadd, 1, 0, 0, .null, [], 0), (223, .iaload, 1, 0, 0, .null, [], 0), (224, .putfield 61, 3, 6, 2, .null, [], 631), (227, .aload_n 0, 1, 0, 0, .null, [], 0), (228, .aload_n 0, 1, 0, 0, .null, [], 0), (229, .getfield 50, 3, 6, 22, .null, [], 651), (232, .iload_n 2, 1, 2, 0, .null, [], 0), (233, .bipush 101, 2, 0, 0, .int (101), [], 0), (235, .iadd, 1, 0, 0, .null, [], 0), (236, .iaload, 1, 0, 0, .null, [], 0), (237, .putfield 19, 3, 6, 4, .null, [], 633), (240, .aload_n 0, 1, 0, 0, .null, [], 0), (241, .aload_n 0, 1, 0, 0, .null, [], 0), (242, .getfield 50, 3, 6, 22, .null, [], 651), (245, .iload_n 2, 1, 2, 0, .null, [], 0), (246, .bipush 102, 2, 0, 0, .int (102), [], 0), (248, .iadd, 1, 0, 0, .null, [], 0), (249, .iaload, 1, 0, 0, .null, [], 0), (250, .putfield 82, 3, 6, 6, .null, [], 635), (253, .aload_n 0, 1, 0, 0, .null, [], 0), (254, .aload_n 0, 1, 0, 0, .null, [], 0), (255, .getfield 50, 3, 6, 22, .null, [], 651), (258, .iload_n 2, 1, 2, 0, .null, [], 0), (259, .bipush 103, 2, 0, 0, .int (103), [], 0), (261, .iadd, 1, 0, 0, .null, [], 0), (262, .iaload, 1, 0, 0, .null, [], 0), (263, .putfield 146, 3, 6, 10, .null, [], 639), (266, .iconst 1, 1, 0, 0, .int (1), [], 0), (267, .ireturn, 1, 0, 0, .null, [], 0)]
def AM_X6_restore : AMinfo := ((6, yX6_restore, cX6_restore, 4, (some .int)), am_r0_X6_restore ++ am_r1_X6_restore ++ am_r2_X6_restore, (1, 22, false, false), (918, 916, 917, 1, 40, 2))
def am_r0_X6_told : List AMrow := [(0, .iload_n 1, 1, 1, 0, .null, [], 0), (1, .sipush 300, 3, 0, 0, .int (300), [], 0), (4, .if_icmp .lt 66, 3, 0, 70, .null, [], 0), (7, .iload_n 1, 1, 1, 0, .null, [], 0), (8, .sipush 300, 3, 0, 0, .int (300), [], 0), (11, .isub, 1, 0, 0, .null, [], 0), (12, .istore_n 2, 1, 2, 0, .null, [], 0), (13, .iload_n 2, 1, 2, 0, .null, [], 0), (14, .iconst 0, 1, 0, 0, .int (0), [], 0), (15, .bipush 11, 2, 0, 0, .int (11), [], 0), (17, .invokestatic 57, 3, 96, 3, .int 0, [], 707), (20, .ifCond .eq 47, 3, 0, 67, .null, [], 0), (23, .aload_n 0, 1, 0, 0, .null, [], 0), (24, .getfield 82, 3, 6, 6, .null, [], 635), (27, .iload_n 2, 1, 2, 0, .null, [], 0), (28, .invokestatic 64, 3, 97, 2, .int 0, [], 732), (31, .ifCond .eq 36, 3, 0, 67, .null, [], 0), (34, .sipush 1000, 3, 0, 0, .int (1000), [], 0), (37, .aload_n 0, 1, 0, 0, .null, [], 0), (38, .getfield 26, 3, 6, 7, .null, [], 636), (41, .iload_n 2, 1, 2, 0, .null, [], 0), (42, .iaload, 1, 0, 0, .null, [], 0), (43, .imul, 1, 0, 0, .null, [], 0), (44, .bipush 100, 2, 0, 0, .int (100), [], 0), (46, .aload_n 0, 1, 0, 0, .null, [], 0), (47, .getfield 29, 3, 6, 8, .null, [], 637), (50, .iload_n 2, 1, 2, 0, .null, [], 0), (51, .iaload, 1, 0, 0, .null, [], 0), (52, .imul, 1, 0, 0, .null, [], 0), (53, .iadd, 1, 0, 0, .null, [], 0), (54, .aload_n 0, 1, 0, 0, .null, [], 0), (55, .getfield 32, 3, 6, 9, .null, [], 638), (58, .iload_n 2, 1, 2, 0, .null, [], 0), (59, .iaload, 1, 0, 0, .null, [], 0), (60, .iadd, 1, 0, 0, .null, [], 0), (61, .bipush 10, 2, 0, 0, .int (10), [], 0), (63, .iadd, 1, 0, 0, .null, [], 0), (64, .goto 5, 3, 0, 69, .null, [], 0), (67, .bipush (-2), 2, 0, 0, .int (-2), [], 0), (69, .ireturn, 1, 0, 0, .null, [], 0), (70, .iload_n 1, 1, 1, 0, .null, [], 0), (71, .sipush 200, 3, 0, 0, .int (200), [], 0), (74, .if_icmp .lt 90, 3, 0, 164, .null, [], 0), (77, .iload_n 1, 1, 1, 0, .null, [], 0), (78, .bipush 10, 2, 0, 0, .int (10), [], 0), (80, .idiv, 1, 0, 0, .null, [], 0), (81, .bipush 20, 2, 0, 0, .int (20), [], 0), (83, .isub, 1, 0, 0, .null, [], 0), (84, .istore_n 2, 1, 2, 0, .null, [], 0), (85, .iload_n 2, 1, 2, 0, .null, [], 0), (86, .iconst 0, 1, 0, 0, .int (0), [], 0), (87, .bipush 7, 2, 0, 0, .int (7), [], 0), (89, .invokestatic 57, 3, 96, 3, .int 0, [], 707), (92, .ifCond .eq 29, 3, 0, 121, .null, [], 0), (95, .aload_n 0, 1, 0, 0, .null, [], 0), (96, .getfield 7, 3, 6, 0, .null, [], 629), (99, .bipush 30, 2, 0, 0, .int (30), [], 0), (101, .iaload, 1, 0, 0, .null, [], 0), (102, .iload_n 2, 1, 2, 0, .null, [], 0), (103, .invokestatic 64, 3, 97, 2, .int 0, [], 732)]
def am_r1_X6_told : List AMrow := [(106, .ifCond .eq 15, 3, 0, 121, .null, [], 0), (109, .iload_n 1, 1, 1, 0, .null, [], 0), (110, .bipush 10, 2, 0, 0, .int (10), [], 0), (112, .irem, 1, 0, 0, .null, [], 0), (113, .iconst 2, 1, 0, 0, .int (2), [], 0), (114, .if_icmp .ge 7, 3, 0, 121, .null, [], 0), (117, .iconst 1, 1, 0, 0, .int (1), [], 0), (118, .goto 4, 3, 0, 122, .null, [], 0), (121, .iconst 0, 1, 0, 0, .int (0), [], 0), (122, .istore_n 3, 1, 3, 0, .null, [], 0), (123, .iload_n 3, 1, 3, 0, .null, [], 0), (124, .ifCond .ne 8, 3, 0, 132, .null, [], 0), (127, .bipush (-2), 2, 0, 0, .int (-2), [], 0), (129, .goto 34, 3, 0, 163, .null, [], 0), (132, .iload_n 1, 1, 1, 0, .null, [], 0), (133, .bipush 10, 2, 0, 0, .int (10), [], 0), (135, .irem, 1, 0, 0, .null, [], 0), (136, .ifCond .ne 18, 3, 0, 154, .null, [], 0), (139, .aload_n 0, 1, 0, 0, .null, [], 0), (140, .getfield 7, 3, 6, 0, .null, [], 629), (143, .bipush 14, 2, 0, 0, .int (14), [], 0), (145, .iload_n 2, 1, 2, 0, .null, [], 0), (146, .iadd, 1, 0, 0, .null, [], 0), (147, .iaload, 1, 0, 0, .null, [], 0), (148, .bipush 10, 2, 0, 0, .int (10), [], 0), (150, .iadd, 1, 0, 0, .null, [], 0), (151, .goto 12, 3, 0, 163, .null, [], 0), (154, .aload_n 0, 1, 0, 0, .null, [], 0), (155, .getfield 7, 3, 6, 0, .null, [], 629), (158, .bipush 22, 2, 0, 0, .int (22), [], 0), (160, .iload_n 2, 1, 2, 0, .null, [], 0), (161, .iadd, 1, 0, 0, .null, [], 0), (162, .iaload, 1, 0, 0, .null, [], 0), (163, .ireturn, 1, 0, 0, .null, [], 0), (164, .iload_n 1, 1, 1, 0, .null, [], 0), (165, .bipush 20, 2, 0, 0, .int (20), [], 0), (167, .if_icmp .lt 46, 3, 0, 213, .null, [], 0), (170, .iload_n 1, 1, 1, 0, .null, [], 0), (171, .bipush 20, 2, 0, 0, .int (20), [], 0), (173, .idiv, 1, 0, 0, .null, [], 0), (174, .iconst 1, 1, 0, 0, .int (1), [], 0), (175, .isub, 1, 0, 0, .null, [], 0), (176, .istore_n 2, 1, 2, 0, .null, [], 0), (177, .aload_n 0, 1, 0, 0, .null, [], 0), (178, .iload_n 2, 1, 2, 0, .null, [], 0), (179, .invokevirtual 76, 3, 99, 2, .int 0, [], 728), (182, .ifCond .eq 28, 3, 0, 210, .null, [], 0), (185, .iload_n 1, 1, 1, 0, .null, [], 0), (186, .bipush 20, 2, 0, 0, .int (20), [], 0), (188, .irem, 1, 0, 0, .null, [], 0), (189, .iconst 2, 1, 0, 0, .int (2), [], 0), (190, .if_icmp .ge 20, 3, 0, 210, .null, [], 0), (193, .aload_n 0, 1, 0, 0, .null, [], 0), (194, .getfield 7, 3, 6, 0, .null, [], 629), (197, .bipush 7, 2, 0, 0, .int (7), [], 0), (199, .iload_n 1, 1, 1, 0, .null, [], 0), (200, .bipush 20, 2, 0, 0, .int (20), [], 0), (202, .irem, 1, 0, 0, .null, [], 0), (203, .imul, 1, 0, 0, .null, [], 0), (204, .iload_n 2, 1, 2, 0, .null, [], 0)]
def am_r2_X6_told : List AMrow := [(205, .iadd, 1, 0, 0, .null, [], 0), (206, .iaload, 1, 0, 0, .null, [], 0), (207, .goto 5, 3, 0, 212, .null, [], 0), (210, .bipush (-2), 2, 0, 0, .int (-2), [], 0), (212, .ireturn, 1, 0, 0, .null, [], 0), (213, .iload_n 1, 1, 1, 0, .null, [], 0), (214, .bipush 10, 2, 0, 0, .int (10), [], 0), (216, .if_icmp .lt 27, 3, 0, 243, .null, [], 0), (219, .iload_n 1, 1, 1, 0, .null, [], 0), (220, .bipush 13, 2, 0, 0, .int (13), [], 0), (222, .if_icmp .ge 18, 3, 0, 240, .null, [], 0), (225, .aload_n 0, 1, 0, 0, .null, [], 0), (226, .getfield 16, 3, 6, 3, .null, [], 632), (229, .iload_n 1, 1, 1, 0, .null, [], 0), (230, .bipush 10, 2, 0, 0, .int (10), [], 0), (232, .isub, 1, 0, 0, .null, [], 0), (233, .iaload, 1, 0, 0, .null, [], 0), (234, .bipush 10, 2, 0, 0, .int (10), [], 0), (236, .iadd, 1, 0, 0, .null, [], 0), (237, .goto 5, 3, 0, 242, .null, [], 0), (240, .bipush (-2), 2, 0, 0, .int (-2), [], 0), (242, .ireturn, 1, 0, 0, .null, [], 0), (243, .iload_n 1, 1, 1, 0, .null, [], 0), (244, .tableswitch 76 0 5 #[40, 45, 50, 58, 63, 71], 40, 0, 320, .null, [(0, 284), (1, 289), (2, 294), (3, 302), (4, 307), (5, 315)], 0), (284, .aload_n 0, 1, 0, 0, .null, [], 0), (285, .getfield 85, 3, 6, 12, .null, [], 641), (288, .ireturn, 1, 0, 0, .null, [], 0), (289, .aload_n 0, 1, 0, 0, .null, [], 0), (290, .getfield 61, 3, 6, 2, .null, [], 631), (293, .ireturn, 1, 0, 0, .null, [], 0), (294, .aload_n 0, 1, 0, 0, .null, [], 0), (295, .getfield 7, 3, 6, 0, .null, [], 629), (298, .bipush 30, 2, 0, 0, .int (30), [], 0), (300, .iaload, 1, 0, 0, .null, [], 0), (301, .ireturn, 1, 0, 0, .null, [], 0), (302, .aload_n 0, 1, 0, 0, .null, [], 0), (303, .getfield 19, 3, 6, 4, .null, [], 633), (306, .ireturn, 1, 0, 0, .null, [], 0), (307, .aload_n 0, 1, 0, 0, .null, [], 0), (308, .getfield 7, 3, 6, 0, .null, [], 629), (311, .bipush 31, 2, 0, 0, .int (31), [], 0), (313, .iaload, 1, 0, 0, .null, [], 0), (314, .ireturn, 1, 0, 0, .null, [], 0), (315, .aload_n 0, 1, 0, 0, .null, [], 0), (316, .getfield 146, 3, 6, 10, .null, [], 639), (319, .ireturn, 1, 0, 0, .null, [], 0), (320, .iload_n 1, 1, 1, 0, .null, [], 0), (321, .bipush 6, 2, 0, 0, .int (6), [], 0), (323, .if_icmp .ne 10, 3, 0, 333, .null, [], 0), (326, .aload_n 0, 1, 0, 0, .null, [], 0), (327, .getfield 82, 3, 6, 6, .null, [], 635), (330, .goto 5, 3, 0, 335, .null, [], 0), (333, .bipush (-2), 2, 0, 0, .int (-2), [], 0), (335, .ireturn, 1, 0, 0, .null, [], 0)]
def AM_X6_told : AMinfo := ((6, yX6_told, cX6_told, 4, (some .int)), am_r0_X6_told ++ am_r1_X6_told ++ am_r2_X6_told, (2, 43, false, false), (922, 920, 921, 1, 40, 2))
def am_r0_J6_bitCount_0f7a4 : List AMrow := [(0, .iload_n 0, 1, 0, 0, .null, [], 0), (1, .iload_n 0, 1, 0, 0, .null, [], 0), (2, .iconst 1, 1, 0, 0, .int (1), [], 0), (3, .iushr, 1, 0, 0, .null, [], 0), (4, .ldc_w 265, 3, 0, 0, .int (1431655765), [], 270), (7, .iand, 1, 0, 0, .null, [], 0), (8, .isub, 1, 0, 0, .null, [], 0), (9, .istore_n 0, 1, 0, 0, .null, [], 0), (10, .iload_n 0, 1, 0, 0, .null, [], 0), (11, .ldc_w 266, 3, 0, 0, .int (858993459), [], 271), (14, .iand, 1, 0, 0, .null, [], 0), (15, .iload_n 0, 1, 0, 0, .null, [], 0), (16, .iconst 2, 1, 0, 0, .int (2), [], 0), (17, .iushr, 1, 0, 0, .null, [], 0), (18, .ldc_w 266, 3, 0, 0, .int (858993459), [], 271), (21, .iand, 1, 0, 0, .null, [], 0), (22, .iadd, 1, 0, 0, .null, [], 0), (23, .istore_n 0, 1, 0, 0, .null, [], 0), (24, .iload_n 0, 1, 0, 0, .null, [], 0), (25, .iload_n 0, 1, 0, 0, .null, [], 0), (26, .iconst 4, 1, 0, 0, .int (4), [], 0), (27, .iushr, 1, 0, 0, .null, [], 0), (28, .iadd, 1, 0, 0, .null, [], 0), (29, .ldc_w 267, 3, 0, 0, .int (252645135), [], 272), (32, .iand, 1, 0, 0, .null, [], 0), (33, .istore_n 0, 1, 0, 0, .null, [], 0), (34, .iload_n 0, 1, 0, 0, .null, [], 0), (35, .iload_n 0, 1, 0, 0, .null, [], 0), (36, .bipush 8, 2, 0, 0, .int (8), [], 0), (38, .iushr, 1, 0, 0, .null, [], 0), (39, .iadd, 1, 0, 0, .null, [], 0), (40, .istore_n 0, 1, 0, 0, .null, [], 0), (41, .iload_n 0, 1, 0, 0, .null, [], 0), (42, .iload_n 0, 1, 0, 0, .null, [], 0), (43, .bipush 16, 2, 0, 0, .int (16), [], 0), (45, .iushr, 1, 0, 0, .null, [], 0), (46, .iadd, 1, 0, 0, .null, [], 0), (47, .istore_n 0, 1, 0, 0, .null, [], 0), (48, .iload_n 0, 1, 0, 0, .null, [], 0), (49, .bipush 63, 2, 0, 0, .int (63), [], 0), (51, .iand, 1, 0, 0, .null, [], 0), (52, .ireturn, 1, 0, 0, .null, [], 0)]
def AM_J6_bitCount_0f7a4 : AMinfo := ((7, yJ6_bitCount_0f7a4, cJ6_bitCount_0f7a4, 1, (some .int)), am_r0_J6_bitCount_0f7a4, (0, 0, false, false), (269, 268, 0, 0, 41, 1))
def am_r0_L_law : List AMrow := [(0, .new 7, 3, 5, 0, .null, [], 42), (3, .dup, 1, 0, 0, .null, [], 0), (4, .invokespecial 9, 3, 47, 1, .int 0, [], 44), (7, .astore_n 1, 1, 1, 0, .null, [], 0), (8, .new 10, 3, 6, 0, .null, [], 623), (11, .dup, 1, 0, 0, .null, [], 0), (12, .invokespecial 12, 3, 95, 1, .int 0, [], 625), (15, .astore_n 2, 1, 2, 0, .null, [], 0), (16, .iconst 0, 1, 0, 0, .int (0), [], 0), (17, .istore_n 3, 1, 3, 0, .null, [], 0), (18, .iload_n 3, 1, 3, 0, .null, [], 0), (19, .aload_n 0, 1, 0, 0, .null, [], 0), (20, .arraylength, 1, 0, 0, .null, [], 0), (21, .bipush 7, 2, 0, 0, .int (7), [], 0), (23, .isub, 1, 0, 0, .null, [], 0), (24, .if_icmp .gt 1136, 3, 0, 1160, .null, [], 0), (27, .aload_n 0, 1, 0, 0, .null, [], 0), (28, .iload_n 3, 1, 3, 0, .null, [], 0), (29, .iaload, 1, 0, 0, .null, [], 0), (30, .bipush 31, 2, 0, 0, .int (31), [], 0), (32, .iand, 1, 0, 0, .null, [], 0), (33, .tableswitch 1121 0 30 #[139, 172, 195, 238, 261, 320, 373, 396, 409, 422, 445, 458, 491, 524, 547, 570, 603, 646, 699, 752, 785, 818, 831, 854, 877, 910, 933, 1009, 1052, 1075, 1098], 139, 0, 1154, .null, [(0, 172), (1, 205), (2, 228), (3, 271), (4, 294), (5, 353), (6, 406), (7, 429), (8, 442), (9, 455), (10, 478), (11, 491), (12, 524), (13, 557), (14, 580), (15, 603), (16, 636), (17, 679), (18, 732), (19, 785), (20, 818), (21, 851), (22, 864), (23, 887), (24, 910), (25, 943), (26, 966), (27, 1042), (28, 1085), (29, 1108), (30, 1131)], 0), (172, .aload_n 1, 1, 1, 0, .null, [], 0), (173, .aload_n 0, 1, 0, 0, .null, [], 0), (174, .iload_n 3, 1, 3, 0, .null, [], 0), (175, .iconst 1, 1, 0, 0, .int (1), [], 0), (176, .iadd, 1, 0, 0, .null, [], 0), (177, .iaload, 1, 0, 0, .null, [], 0), (178, .aload_n 0, 1, 0, 0, .null, [], 0), (179, .iload_n 3, 1, 3, 0, .null, [], 0), (180, .iconst 2, 1, 0, 0, .int (2), [], 0), (181, .iadd, 1, 0, 0, .null, [], 0), (182, .iaload, 1, 0, 0, .null, [], 0), (183, .invokevirtual 13, 3, 48, 3, .int 0, [], 244), (186, .aload_n 2, 1, 2, 0, .null, [], 0), (187, .aload_n 0, 1, 0, 0, .null, [], 0), (188, .iload_n 3, 1, 3, 0, .null, [], 0), (189, .iconst 1, 1, 0, 0, .int (1), [], 0), (190, .iadd, 1, 0, 0, .null, [], 0), (191, .iaload, 1, 0, 0, .null, [], 0), (192, .aload_n 0, 1, 0, 0, .null, [], 0), (193, .iload_n 3, 1, 3, 0, .null, [], 0), (194, .iconst 2, 1, 0, 0, .int (2), [], 0), (195, .iadd, 1, 0, 0, .null, [], 0), (196, .iaload, 1, 0, 0, .null, [], 0), (197, .invokevirtual 17, 3, 102, 3, .int 0, [], 703), (200, .if_icmp .eq 954, 3, 0, 1154, .null, [], 0), (203, .iconst 0, 1, 0, 0, .int (0), [], 0), (204, .ireturn, 1, 0, 0, .null, [], 0), (205, .aload_n 1, 1, 1, 0, .null, [], 0), (206, .aload_n 0, 1, 0, 0, .null, [], 0), (207, .iload_n 3, 1, 3, 0, .null, [], 0), (208, .iconst 1, 1, 0, 0, .int (1), [], 0), (209, .iadd, 1, 0, 0, .null, [], 0), (210, .iaload, 1, 0, 0, .null, [], 0), (211, .invokevirtual 18, 3, 49, 2, .int 0, [], 259), (214, .aload_n 2, 1, 2, 0, .null, [], 0), (215, .aload_n 0, 1, 0, 0, .null, [], 0), (216, .iload_n 3, 1, 3, 0, .null, [], 0), (217, .iconst 1, 1, 0, 0, .int (1), [], 0)]
def am_r1_L_law : List AMrow := [(218, .iadd, 1, 0, 0, .null, [], 0), (219, .iaload, 1, 0, 0, .null, [], 0), (220, .invokevirtual 22, 3, 103, 2, .int 0, [], 713), (223, .if_icmp .eq 931, 3, 0, 1154, .null, [], 0), (226, .iconst 0, 1, 0, 0, .int (0), [], 0), (227, .ireturn, 1, 0, 0, .null, [], 0), (228, .aload_n 1, 1, 1, 0, .null, [], 0), (229, .aload_n 0, 1, 0, 0, .null, [], 0), (230, .iload_n 3, 1, 3, 0, .null, [], 0), (231, .iconst 1, 1, 0, 0, .int (1), [], 0), (232, .iadd, 1, 0, 0, .null, [], 0), (233, .iaload, 1, 0, 0, .null, [], 0), (234, .aload_n 0, 1, 0, 0, .null, [], 0), (235, .iload_n 3, 1, 3, 0, .null, [], 0), (236, .iconst 2, 1, 0, 0, .int (2), [], 0), (237, .iadd, 1, 0, 0, .null, [], 0), (238, .iaload, 1, 0, 0, .null, [], 0), (239, .aload_n 0, 1, 0, 0, .null, [], 0), (240, .iload_n 3, 1, 3, 0, .null, [], 0), (241, .iconst 3, 1, 0, 0, .int (3), [], 0), (242, .iadd, 1, 0, 0, .null, [], 0), (243, .iaload, 1, 0, 0, .null, [], 0), (244, .invokevirtual 23, 3, 50, 4, .int 0, [], 263), (247, .aload_n 2, 1, 2, 0, .null, [], 0), (248, .aload_n 0, 1, 0, 0, .null, [], 0), (249, .iload_n 3, 1, 3, 0, .null, [], 0), (250, .iconst 1, 1, 0, 0, .int (1), [], 0), (251, .iadd, 1, 0, 0, .null, [], 0), (252, .iaload, 1, 0, 0, .null, [], 0), (253, .aload_n 0, 1, 0, 0, .null, [], 0), (254, .iload_n 3, 1, 3, 0, .null, [], 0), (255, .iconst 2, 1, 0, 0, .int (2), [], 0), (256, .iadd, 1, 0, 0, .null, [], 0), (257, .iaload, 1, 0, 0, .null, [], 0), (258, .aload_n 0, 1, 0, 0, .null, [], 0), (259, .iload_n 3, 1, 3, 0, .null, [], 0), (260, .iconst 3, 1, 0, 0, .int (3), [], 0), (261, .iadd, 1, 0, 0, .null, [], 0), (262, .iaload, 1, 0, 0, .null, [], 0), (263, .invokevirtual 27, 3, 104, 4, .int 0, [], 717), (266, .if_icmp .eq 888, 3, 0, 1154, .null, [], 0), (269, .iconst 0, 1, 0, 0, .int (0), [], 0), (270, .ireturn, 1, 0, 0, .null, [], 0), (271, .aload_n 1, 1, 1, 0, .null, [], 0), (272, .aload_n 0, 1, 0, 0, .null, [], 0), (273, .iload_n 3, 1, 3, 0, .null, [], 0), (274, .iconst 1, 1, 0, 0, .int (1), [], 0), (275, .iadd, 1, 0, 0, .null, [], 0), (276, .iaload, 1, 0, 0, .null, [], 0), (277, .invokevirtual 28, 3, 51, 2, .int 0, [], 273), (280, .aload_n 2, 1, 2, 0, .null, [], 0), (281, .aload_n 0, 1, 0, 0, .null, [], 0), (282, .iload_n 3, 1, 3, 0, .null, [], 0), (283, .iconst 1, 1, 0, 0, .int (1), [], 0), (284, .iadd, 1, 0, 0, .null, [], 0), (285, .iaload, 1, 0, 0, .null, [], 0), (286, .invokevirtual 31, 3, 105, 2, .int 0, [], 724), (289, .if_icmp .eq 865, 3, 0, 1154, .null, [], 0), (292, .iconst 0, 1, 0, 0, .int (0), [], 0), (293, .ireturn, 1, 0, 0, .null, [], 0)]
def am_r2_L_law : List AMrow := [(294, .aload_n 1, 1, 1, 0, .null, [], 0), (295, .aload_n 0, 1, 0, 0, .null, [], 0), (296, .iload_n 3, 1, 3, 0, .null, [], 0), (297, .iconst 1, 1, 0, 0, .int (1), [], 0), (298, .iadd, 1, 0, 0, .null, [], 0), (299, .iaload, 1, 0, 0, .null, [], 0), (300, .aload_n 0, 1, 0, 0, .null, [], 0), (301, .iload_n 3, 1, 3, 0, .null, [], 0), (302, .iconst 2, 1, 0, 0, .int (2), [], 0), (303, .iadd, 1, 0, 0, .null, [], 0), (304, .iaload, 1, 0, 0, .null, [], 0), (305, .aload_n 0, 1, 0, 0, .null, [], 0), (306, .iload_n 3, 1, 3, 0, .null, [], 0), (307, .iconst 3, 1, 0, 0, .int (3), [], 0), (308, .iadd, 1, 0, 0, .null, [], 0), (309, .iaload, 1, 0, 0, .null, [], 0), (310, .ifCond .eq 7, 3, 0, 317, .null, [], 0), (313, .iconst 1, 1, 0, 0, .int (1), [], 0), (314, .goto 4, 3, 0, 318, .null, [], 0), (317, .iconst 0, 1, 0, 0, .int (0), [], 0), (318, .invokevirtual 32, 3, 52, 4, .int 0, [], 284), (321, .aload_n 2, 1, 2, 0, .null, [], 0), (322, .aload_n 0, 1, 0, 0, .null, [], 0), (323, .iload_n 3, 1, 3, 0, .null, [], 0), (324, .iconst 1, 1, 0, 0, .int (1), [], 0), (325, .iadd, 1, 0, 0, .null, [], 0), (326, .iaload, 1, 0, 0, .null, [], 0), (327, .aload_n 0, 1, 0, 0, .null, [], 0), (328, .iload_n 3, 1, 3, 0, .null, [], 0), (329, .iconst 2, 1, 0, 0, .int (2), [], 0), (330, .iadd, 1, 0, 0, .null, [], 0), (331, .iaload, 1, 0, 0, .null, [], 0), (332, .aload_n 0, 1, 0, 0, .null, [], 0), (333, .iload_n 3, 1, 3, 0, .null, [], 0), (334, .iconst 3, 1, 0, 0, .int (3), [], 0), (335, .iadd, 1, 0, 0, .null, [], 0), (336, .iaload, 1, 0, 0, .null, [], 0), (337, .ifCond .eq 7, 3, 0, 344, .null, [], 0), (340, .iconst 1, 1, 0, 0, .int (1), [], 0), (341, .goto 4, 3, 0, 345, .null, [], 0), (344, .iconst 0, 1, 0, 0, .int (0), [], 0), (345, .invokevirtual 36, 3, 106, 4, .int 0, [], 735), (348, .if_icmp .eq 806, 3, 0, 1154, .null, [], 0), (351, .iconst 0, 1, 0, 0, .int (0), [], 0), (352, .ireturn, 1, 0, 0, .null, [], 0), (353, .aload_n 1, 1, 1, 0, .null, [], 0), (354, .aload_n 0, 1, 0, 0, .null, [], 0), (355, .iload_n 3, 1, 3, 0, .null, [], 0), (356, .iconst 1, 1, 0, 0, .int (1), [], 0), (357, .iadd, 1, 0, 0, .null, [], 0), (358, .iaload, 1, 0, 0, .null, [], 0), (359, .aload_n 0, 1, 0, 0, .null, [], 0), (360, .iload_n 3, 1, 3, 0, .null, [], 0), (361, .iconst 2, 1, 0, 0, .int (2), [], 0), (362, .iadd, 1, 0, 0, .null, [], 0), (363, .iaload, 1, 0, 0, .null, [], 0), (364, .aload_n 0, 1, 0, 0, .null, [], 0), (365, .iload_n 3, 1, 3, 0, .null, [], 0), (366, .iconst 3, 1, 0, 0, .int (3), [], 0), (367, .iadd, 1, 0, 0, .null, [], 0)]
def am_r3_L_law : List AMrow := [(368, .iaload, 1, 0, 0, .null, [], 0), (369, .aload_n 0, 1, 0, 0, .null, [], 0), (370, .iload_n 3, 1, 3, 0, .null, [], 0), (371, .iconst 4, 1, 0, 0, .int (4), [], 0), (372, .iadd, 1, 0, 0, .null, [], 0), (373, .iaload, 1, 0, 0, .null, [], 0), (374, .invokevirtual 37, 3, 53, 5, .int 0, [], 298), (377, .aload_n 2, 1, 2, 0, .null, [], 0), (378, .aload_n 0, 1, 0, 0, .null, [], 0), (379, .iload_n 3, 1, 3, 0, .null, [], 0), (380, .iconst 1, 1, 0, 0, .int (1), [], 0), (381, .iadd, 1, 0, 0, .null, [], 0), (382, .iaload, 1, 0, 0, .null, [], 0), (383, .aload_n 0, 1, 0, 0, .null, [], 0), (384, .iload_n 3, 1, 3, 0, .null, [], 0), (385, .iconst 2, 1, 0, 0, .int (2), [], 0), (386, .iadd, 1, 0, 0, .null, [], 0), (387, .iaload, 1, 0, 0, .null, [], 0), (388, .aload_n 0, 1, 0, 0, .null, [], 0), (389, .iload_n 3, 1, 3, 0, .null, [], 0), (390, .iconst 3, 1, 0, 0, .int (3), [], 0), (391, .iadd, 1, 0, 0, .null, [], 0), (392, .iaload, 1, 0, 0, .null, [], 0), (393, .aload_n 0, 1, 0, 0, .null, [], 0), (394, .iload_n 3, 1, 3, 0, .null, [], 0), (395, .iconst 4, 1, 0, 0, .int (4), [], 0), (396, .iadd, 1, 0, 0, .null, [], 0), (397, .iaload, 1, 0, 0, .null, [], 0), (398, .invokevirtual 41, 3, 108, 5, .int 0, [], 739), (401, .if_icmp .eq 753, 3, 0, 1154, .null, [], 0), (404, .iconst 0, 1, 0, 0, .int (0), [], 0), (405, .ireturn, 1, 0, 0, .null, [], 0), (406, .aload_n 1, 1, 1, 0, .null, [], 0), (407, .aload_n 0, 1, 0, 0, .null, [], 0), (408, .iload_n 3, 1, 3, 0, .null, [], 0), (409, .iconst 1, 1, 0, 0, .int (1), [], 0), (410, .iadd, 1, 0, 0, .null, [], 0), (411, .iaload, 1, 0, 0, .null, [], 0), (412, .invokevirtual 42, 3, 54, 2, .int 0, [], 305), (415, .aload_n 2, 1, 2, 0, .null, [], 0), (416, .aload_n 0, 1, 0, 0, .null, [], 0), (417, .iload_n 3, 1, 3, 0, .null, [], 0), (418, .iconst 1, 1, 0, 0, .int (1), [], 0), (419, .iadd, 1, 0, 0, .null, [], 0), (420, .iaload, 1, 0, 0, .null, [], 0), (421, .invokevirtual 45, 3, 109, 2, .int 0, [], 746), (424, .if_icmp .eq 730, 3, 0, 1154, .null, [], 0), (427, .iconst 0, 1, 0, 0, .int (0), [], 0), (428, .ireturn, 1, 0, 0, .null, [], 0), (429, .aload_n 1, 1, 1, 0, .null, [], 0), (430, .invokevirtual 46, 3, 55, 1, .int 0, [], 314), (433, .aload_n 2, 1, 2, 0, .null, [], 0), (434, .invokevirtual 50, 3, 110, 1, .int 0, [], 750), (437, .if_icmp .eq 717, 3, 0, 1154, .null, [], 0), (440, .iconst 0, 1, 0, 0, .int (0), [], 0), (441, .ireturn, 1, 0, 0, .null, [], 0), (442, .aload_n 1, 1, 1, 0, .null, [], 0), (443, .invokevirtual 51, 3, 56, 1, .int 0, [], 318), (446, .aload_n 2, 1, 2, 0, .null, [], 0), (447, .invokevirtual 54, 3, 112, 1, .int 0, [], 754)]
def am_r4_L_law : List AMrow := [(450, .if_icmp .eq 704, 3, 0, 1154, .null, [], 0), (453, .iconst 0, 1, 0, 0, .int (0), [], 0), (454, .ireturn, 1, 0, 0, .null, [], 0), (455, .aload_n 1, 1, 1, 0, .null, [], 0), (456, .aload_n 0, 1, 0, 0, .null, [], 0), (457, .iload_n 3, 1, 3, 0, .null, [], 0), (458, .iconst 1, 1, 0, 0, .int (1), [], 0), (459, .iadd, 1, 0, 0, .null, [], 0), (460, .iaload, 1, 0, 0, .null, [], 0), (461, .invokevirtual 55, 3, 57, 2, .int 0, [], 337), (464, .aload_n 2, 1, 2, 0, .null, [], 0), (465, .aload_n 0, 1, 0, 0, .null, [], 0), (466, .iload_n 3, 1, 3, 0, .null, [], 0), (467, .iconst 1, 1, 0, 0, .int (1), [], 0), (468, .iadd, 1, 0, 0, .null, [], 0), (469, .iaload, 1, 0, 0, .null, [], 0), (470, .invokevirtual 58, 3, 120, 2, .int 0, [], 762), (473, .if_icmp .eq 681, 3, 0, 1154, .null, [], 0), (476, .iconst 0, 1, 0, 0, .int (0), [], 0), (477, .ireturn, 1, 0, 0, .null, [], 0), (478, .aload_n 1, 1, 1, 0, .null, [], 0), (479, .invokevirtual 59, 3, 58, 1, .int 0, [], 417), (482, .aload_n 2, 1, 2, 0, .null, [], 0), (483, .invokevirtual 62, 3, 122, 1, .int 0, [], 798), (486, .if_icmp .eq 668, 3, 0, 1154, .null, [], 0), (489, .iconst 0, 1, 0, 0, .int (0), [], 0), (490, .ireturn, 1, 0, 0, .null, [], 0), (491, .aload_n 1, 1, 1, 0, .null, [], 0), (492, .aload_n 0, 1, 0, 0, .null, [], 0), (493, .iload_n 3, 1, 3, 0, .null, [], 0), (494, .iconst 1, 1, 0, 0, .int (1), [], 0), (495, .iadd, 1, 0, 0, .null, [], 0), (496, .iaload, 1, 0, 0, .null, [], 0), (497, .aload_n 0, 1, 0, 0, .null, [], 0), (498, .iload_n 3, 1, 3, 0, .null, [], 0), (499, .iconst 2, 1, 0, 0, .int (2), [], 0), (500, .iadd, 1, 0, 0, .null, [], 0), (501, .iaload, 1, 0, 0, .null, [], 0), (502, .invokevirtual 63, 3, 59, 3, .int 0, [], 422), (505, .aload_n 2, 1, 2, 0, .null, [], 0), (506, .aload_n 0, 1, 0, 0, .null, [], 0), (507, .iload_n 3, 1, 3, 0, .null, [], 0), (508, .iconst 1, 1, 0, 0, .int (1), [], 0), (509, .iadd, 1, 0, 0, .null, [], 0), (510, .iaload, 1, 0, 0, .null, [], 0), (511, .aload_n 0, 1, 0, 0, .null, [], 0), (512, .iload_n 3, 1, 3, 0, .null, [], 0), (513, .iconst 2, 1, 0, 0, .int (2), [], 0), (514, .iadd, 1, 0, 0, .null, [], 0), (515, .iaload, 1, 0, 0, .null, [], 0), (516, .invokevirtual 66, 3, 123, 3, .int 0, [], 806), (519, .if_icmp .eq 635, 3, 0, 1154, .null, [], 0), (522, .iconst 0, 1, 0, 0, .int (0), [], 0), (523, .ireturn, 1, 0, 0, .null, [], 0), (524, .aload_n 1, 1, 1, 0, .null, [], 0), (525, .aload_n 0, 1, 0, 0, .null, [], 0), (526, .iload_n 3, 1, 3, 0, .null, [], 0), (527, .iconst 1, 1, 0, 0, .int (1), [], 0), (528, .iadd, 1, 0, 0, .null, [], 0), (529, .iaload, 1, 0, 0, .null, [], 0)]
def am_r5_L_law : List AMrow := [(530, .aload_n 0, 1, 0, 0, .null, [], 0), (531, .iload_n 3, 1, 3, 0, .null, [], 0), (532, .iconst 2, 1, 0, 0, .int (2), [], 0), (533, .iadd, 1, 0, 0, .null, [], 0), (534, .iaload, 1, 0, 0, .null, [], 0), (535, .invokevirtual 67, 3, 60, 3, .int 0, [], 426), (538, .aload_n 2, 1, 2, 0, .null, [], 0), (539, .aload_n 0, 1, 0, 0, .null, [], 0), (540, .iload_n 3, 1, 3, 0, .null, [], 0), (541, .iconst 1, 1, 0, 0, .int (1), [], 0), (542, .iadd, 1, 0, 0, .null, [], 0), (543, .iaload, 1, 0, 0, .null, [], 0), (544, .aload_n 0, 1, 0, 0, .null, [], 0), (545, .iload_n 3, 1, 3, 0, .null, [], 0), (546, .iconst 2, 1, 0, 0, .int (2), [], 0), (547, .iadd, 1, 0, 0, .null, [], 0), (548, .iaload, 1, 0, 0, .null, [], 0), (549, .invokevirtual 70, 3, 124, 3, .int 0, [], 810), (552, .if_icmp .eq 602, 3, 0, 1154, .null, [], 0), (555, .iconst 0, 1, 0, 0, .int (0), [], 0), (556, .ireturn, 1, 0, 0, .null, [], 0), (557, .aload_n 1, 1, 1, 0, .null, [], 0), (558, .aload_n 0, 1, 0, 0, .null, [], 0), (559, .iload_n 3, 1, 3, 0, .null, [], 0), (560, .iconst 1, 1, 0, 0, .int (1), [], 0), (561, .iadd, 1, 0, 0, .null, [], 0), (562, .iaload, 1, 0, 0, .null, [], 0), (563, .invokevirtual 71, 3, 61, 2, .int 0, [], 435), (566, .aload_n 2, 1, 2, 0, .null, [], 0), (567, .aload_n 0, 1, 0, 0, .null, [], 0), (568, .iload_n 3, 1, 3, 0, .null, [], 0), (569, .iconst 1, 1, 0, 0, .int (1), [], 0), (570, .iadd, 1, 0, 0, .null, [], 0), (571, .iaload, 1, 0, 0, .null, [], 0), (572, .invokevirtual 74, 3, 125, 2, .int 0, [], 814), (575, .if_icmp .eq 579, 3, 0, 1154, .null, [], 0), (578, .iconst 0, 1, 0, 0, .int (0), [], 0), (579, .ireturn, 1, 0, 0, .null, [], 0), (580, .aload_n 1, 1, 1, 0, .null, [], 0), (581, .aload_n 0, 1, 0, 0, .null, [], 0), (582, .iload_n 3, 1, 3, 0, .null, [], 0), (583, .iconst 1, 1, 0, 0, .int (1), [], 0), (584, .iadd, 1, 0, 0, .null, [], 0), (585, .iaload, 1, 0, 0, .null, [], 0), (586, .invokevirtual 75, 3, 62, 2, .int 0, [], 439), (589, .aload_n 2, 1, 2, 0, .null, [], 0), (590, .aload_n 0, 1, 0, 0, .null, [], 0), (591, .iload_n 3, 1, 3, 0, .null, [], 0), (592, .iconst 1, 1, 0, 0, .int (1), [], 0), (593, .iadd, 1, 0, 0, .null, [], 0), (594, .iaload, 1, 0, 0, .null, [], 0), (595, .invokevirtual 78, 3, 126, 2, .int 0, [], 818), (598, .if_icmp .eq 556, 3, 0, 1154, .null, [], 0), (601, .iconst 0, 1, 0, 0, .int (0), [], 0), (602, .ireturn, 1, 0, 0, .null, [], 0), (603, .aload_n 1, 1, 1, 0, .null, [], 0), (604, .aload_n 0, 1, 0, 0, .null, [], 0), (605, .iload_n 3, 1, 3, 0, .null, [], 0), (606, .iconst 1, 1, 0, 0, .int (1), [], 0), (607, .iadd, 1, 0, 0, .null, [], 0)]
def am_r6_L_law : List AMrow := [(608, .iaload, 1, 0, 0, .null, [], 0), (609, .aload_n 0, 1, 0, 0, .null, [], 0), (610, .iload_n 3, 1, 3, 0, .null, [], 0), (611, .iconst 2, 1, 0, 0, .int (2), [], 0), (612, .iadd, 1, 0, 0, .null, [], 0), (613, .iaload, 1, 0, 0, .null, [], 0), (614, .invokevirtual 79, 3, 63, 3, .int 0, [], 447), (617, .aload_n 2, 1, 2, 0, .null, [], 0), (618, .aload_n 0, 1, 0, 0, .null, [], 0), (619, .iload_n 3, 1, 3, 0, .null, [], 0), (620, .iconst 1, 1, 0, 0, .int (1), [], 0), (621, .iadd, 1, 0, 0, .null, [], 0), (622, .iaload, 1, 0, 0, .null, [], 0), (623, .aload_n 0, 1, 0, 0, .null, [], 0), (624, .iload_n 3, 1, 3, 0, .null, [], 0), (625, .iconst 2, 1, 0, 0, .int (2), [], 0), (626, .iadd, 1, 0, 0, .null, [], 0), (627, .iaload, 1, 0, 0, .null, [], 0), (628, .invokevirtual 82, 3, 129, 3, .int 0, [], 822), (631, .if_icmp .eq 523, 3, 0, 1154, .null, [], 0), (634, .iconst 0, 1, 0, 0, .int (0), [], 0), (635, .ireturn, 1, 0, 0, .null, [], 0), (636, .aload_n 1, 1, 1, 0, .null, [], 0), (637, .aload_n 0, 1, 0, 0, .null, [], 0), (638, .iload_n 3, 1, 3, 0, .null, [], 0), (639, .iconst 1, 1, 0, 0, .int (1), [], 0), (640, .iadd, 1, 0, 0, .null, [], 0), (641, .iaload, 1, 0, 0, .null, [], 0), (642, .aload_n 0, 1, 0, 0, .null, [], 0), (643, .iload_n 3, 1, 3, 0, .null, [], 0), (644, .iconst 2, 1, 0, 0, .int (2), [], 0), (645, .iadd, 1, 0, 0, .null, [], 0), (646, .iaload, 1, 0, 0, .null, [], 0), (647, .aload_n 0, 1, 0, 0, .null, [], 0), (648, .iload_n 3, 1, 3, 0, .null, [], 0), (649, .iconst 3, 1, 0, 0, .int (3), [], 0), (650, .iadd, 1, 0, 0, .null, [], 0), (651, .iaload, 1, 0, 0, .null, [], 0), (652, .invokevirtual 83, 3, 64, 4, .int 0, [], 467), (655, .aload_n 2, 1, 2, 0, .null, [], 0), (656, .aload_n 0, 1, 0, 0, .null, [], 0), (657, .iload_n 3, 1, 3, 0, .null, [], 0), (658, .iconst 1, 1, 0, 0, .int (1), [], 0), (659, .iadd, 1, 0, 0, .null, [], 0), (660, .iaload, 1, 0, 0, .null, [], 0), (661, .aload_n 0, 1, 0, 0, .null, [], 0), (662, .iload_n 3, 1, 3, 0, .null, [], 0), (663, .iconst 2, 1, 0, 0, .int (2), [], 0), (664, .iadd, 1, 0, 0, .null, [], 0), (665, .iaload, 1, 0, 0, .null, [], 0), (666, .aload_n 0, 1, 0, 0, .null, [], 0), (667, .iload_n 3, 1, 3, 0, .null, [], 0), (668, .iconst 3, 1, 0, 0, .int (3), [], 0), (669, .iadd, 1, 0, 0, .null, [], 0), (670, .iaload, 1, 0, 0, .null, [], 0), (671, .invokevirtual 86, 3, 130, 4, .int 0, [], 834), (674, .if_icmp .eq 480, 3, 0, 1154, .null, [], 0), (677, .iconst 0, 1, 0, 0, .int (0), [], 0), (678, .ireturn, 1, 0, 0, .null, [], 0), (679, .aload_n 1, 1, 1, 0, .null, [], 0)]
def am_r7_L_law : List AMrow := [(680, .aload_n 0, 1, 0, 0, .null, [], 0), (681, .iload_n 3, 1, 3, 0, .null, [], 0), (682, .iconst 1, 1, 0, 0, .int (1), [], 0), (683, .iadd, 1, 0, 0, .null, [], 0), (684, .iaload, 1, 0, 0, .null, [], 0), (685, .aload_n 0, 1, 0, 0, .null, [], 0), (686, .iload_n 3, 1, 3, 0, .null, [], 0), (687, .iconst 2, 1, 0, 0, .int (2), [], 0), (688, .iadd, 1, 0, 0, .null, [], 0), (689, .iaload, 1, 0, 0, .null, [], 0), (690, .aload_n 0, 1, 0, 0, .null, [], 0), (691, .iload_n 3, 1, 3, 0, .null, [], 0), (692, .iconst 3, 1, 0, 0, .int (3), [], 0), (693, .iadd, 1, 0, 0, .null, [], 0), (694, .iaload, 1, 0, 0, .null, [], 0), (695, .aload_n 0, 1, 0, 0, .null, [], 0), (696, .iload_n 3, 1, 3, 0, .null, [], 0), (697, .iconst 4, 1, 0, 0, .int (4), [], 0), (698, .iadd, 1, 0, 0, .null, [], 0), (699, .iaload, 1, 0, 0, .null, [], 0), (700, .invokevirtual 87, 3, 65, 5, .int 0, [], 475), (703, .aload_n 2, 1, 2, 0, .null, [], 0), (704, .aload_n 0, 1, 0, 0, .null, [], 0), (705, .iload_n 3, 1, 3, 0, .null, [], 0), (706, .iconst 1, 1, 0, 0, .int (1), [], 0), (707, .iadd, 1, 0, 0, .null, [], 0), (708, .iaload, 1, 0, 0, .null, [], 0), (709, .aload_n 0, 1, 0, 0, .null, [], 0), (710, .iload_n 3, 1, 3, 0, .null, [], 0), (711, .iconst 2, 1, 0, 0, .int (2), [], 0), (712, .iadd, 1, 0, 0, .null, [], 0), (713, .iaload, 1, 0, 0, .null, [], 0), (714, .aload_n 0, 1, 0, 0, .null, [], 0), (715, .iload_n 3, 1, 3, 0, .null, [], 0), (716, .iconst 3, 1, 0, 0, .int (3), [], 0), (717, .iadd, 1, 0, 0, .null, [], 0), (718, .iaload, 1, 0, 0, .null, [], 0), (719, .aload_n 0, 1, 0, 0, .null, [], 0), (720, .iload_n 3, 1, 3, 0, .null, [], 0), (721, .iconst 4, 1, 0, 0, .int (4), [], 0), (722, .iadd, 1, 0, 0, .null, [], 0), (723, .iaload, 1, 0, 0, .null, [], 0), (724, .invokevirtual 90, 3, 131, 5, .int 0, [], 839), (727, .if_icmp .eq 427, 3, 0, 1154, .null, [], 0), (730, .iconst 0, 1, 0, 0, .int (0), [], 0), (731, .ireturn, 1, 0, 0, .null, [], 0), (732, .aload_n 1, 1, 1, 0, .null, [], 0), (733, .aload_n 0, 1, 0, 0, .null, [], 0), (734, .iload_n 3, 1, 3, 0, .null, [], 0), (735, .iconst 1, 1, 0, 0, .int (1), [], 0), (736, .iadd, 1, 0, 0, .null, [], 0), (737, .iaload, 1, 0, 0, .null, [], 0), (738, .aload_n 0, 1, 0, 0, .null, [], 0), (739, .iload_n 3, 1, 3, 0, .null, [], 0), (740, .iconst 2, 1, 0, 0, .int (2), [], 0), (741, .iadd, 1, 0, 0, .null, [], 0), (742, .iaload, 1, 0, 0, .null, [], 0), (743, .aload_n 0, 1, 0, 0, .null, [], 0), (744, .iload_n 3, 1, 3, 0, .null, [], 0), (745, .iconst 3, 1, 0, 0, .int (3), [], 0)]
def am_r8_L_law : List AMrow := [(746, .iadd, 1, 0, 0, .null, [], 0), (747, .iaload, 1, 0, 0, .null, [], 0), (748, .aload_n 0, 1, 0, 0, .null, [], 0), (749, .iload_n 3, 1, 3, 0, .null, [], 0), (750, .iconst 4, 1, 0, 0, .int (4), [], 0), (751, .iadd, 1, 0, 0, .null, [], 0), (752, .iaload, 1, 0, 0, .null, [], 0), (753, .invokevirtual 91, 3, 66, 5, .int 0, [], 484), (756, .aload_n 2, 1, 2, 0, .null, [], 0), (757, .aload_n 0, 1, 0, 0, .null, [], 0), (758, .iload_n 3, 1, 3, 0, .null, [], 0), (759, .iconst 1, 1, 0, 0, .int (1), [], 0), (760, .iadd, 1, 0, 0, .null, [], 0), (761, .iaload, 1, 0, 0, .null, [], 0), (762, .aload_n 0, 1, 0, 0, .null, [], 0), (763, .iload_n 3, 1, 3, 0, .null, [], 0), (764, .iconst 2, 1, 0, 0, .int (2), [], 0), (765, .iadd, 1, 0, 0, .null, [], 0), (766, .iaload, 1, 0, 0, .null, [], 0), (767, .aload_n 0, 1, 0, 0, .null, [], 0), (768, .iload_n 3, 1, 3, 0, .null, [], 0), (769, .iconst 3, 1, 0, 0, .int (3), [], 0), (770, .iadd, 1, 0, 0, .null, [], 0), (771, .iaload, 1, 0, 0, .null, [], 0), (772, .aload_n 0, 1, 0, 0, .null, [], 0), (773, .iload_n 3, 1, 3, 0, .null, [], 0), (774, .iconst 4, 1, 0, 0, .int (4), [], 0), (775, .iadd, 1, 0, 0, .null, [], 0), (776, .iaload, 1, 0, 0, .null, [], 0), (777, .invokevirtual 94, 3, 133, 5, .int 0, [], 843), (780, .if_icmp .eq 374, 3, 0, 1154, .null, [], 0), (783, .iconst 0, 1, 0, 0, .int (0), [], 0), (784, .ireturn, 1, 0, 0, .null, [], 0), (785, .aload_n 1, 1, 1, 0, .null, [], 0), (786, .aload_n 0, 1, 0, 0, .null, [], 0), (787, .iload_n 3, 1, 3, 0, .null, [], 0), (788, .iconst 1, 1, 0, 0, .int (1), [], 0), (789, .iadd, 1, 0, 0, .null, [], 0), (790, .iaload, 1, 0, 0, .null, [], 0), (791, .aload_n 0, 1, 0, 0, .null, [], 0), (792, .iload_n 3, 1, 3, 0, .null, [], 0), (793, .iconst 2, 1, 0, 0, .int (2), [], 0), (794, .iadd, 1, 0, 0, .null, [], 0), (795, .iaload, 1, 0, 0, .null, [], 0), (796, .invokevirtual 95, 3, 67, 3, .int 0, [], 492), (799, .aload_n 2, 1, 2, 0, .null, [], 0), (800, .aload_n 0, 1, 0, 0, .null, [], 0), (801, .iload_n 3, 1, 3, 0, .null, [], 0), (802, .iconst 1, 1, 0, 0, .int (1), [], 0), (803, .iadd, 1, 0, 0, .null, [], 0), (804, .iaload, 1, 0, 0, .null, [], 0), (805, .aload_n 0, 1, 0, 0, .null, [], 0), (806, .iload_n 3, 1, 3, 0, .null, [], 0), (807, .iconst 2, 1, 0, 0, .int (2), [], 0), (808, .iadd, 1, 0, 0, .null, [], 0), (809, .iaload, 1, 0, 0, .null, [], 0), (810, .invokevirtual 98, 3, 134, 3, .int 0, [], 851), (813, .if_icmp .eq 341, 3, 0, 1154, .null, [], 0), (816, .iconst 0, 1, 0, 0, .int (0), [], 0), (817, .ireturn, 1, 0, 0, .null, [], 0)]
def am_r9_L_law : List AMrow := [(818, .aload_n 1, 1, 1, 0, .null, [], 0), (819, .aload_n 0, 1, 0, 0, .null, [], 0), (820, .iload_n 3, 1, 3, 0, .null, [], 0), (821, .iconst 1, 1, 0, 0, .int (1), [], 0), (822, .iadd, 1, 0, 0, .null, [], 0), (823, .iaload, 1, 0, 0, .null, [], 0), (824, .aload_n 0, 1, 0, 0, .null, [], 0), (825, .iload_n 3, 1, 3, 0, .null, [], 0), (826, .iconst 2, 1, 0, 0, .int (2), [], 0), (827, .iadd, 1, 0, 0, .null, [], 0), (828, .iaload, 1, 0, 0, .null, [], 0), (829, .invokevirtual 99, 3, 68, 3, .int 0, [], 496), (832, .aload_n 2, 1, 2, 0, .null, [], 0), (833, .aload_n 0, 1, 0, 0, .null, [], 0), (834, .iload_n 3, 1, 3, 0, .null, [], 0), (835, .iconst 1, 1, 0, 0, .int (1), [], 0), (836, .iadd, 1, 0, 0, .null, [], 0), (837, .iaload, 1, 0, 0, .null, [], 0), (838, .aload_n 0, 1, 0, 0, .null, [], 0), (839, .iload_n 3, 1, 3, 0, .null, [], 0), (840, .iconst 2, 1, 0, 0, .int (2), [], 0), (841, .iadd, 1, 0, 0, .null, [], 0), (842, .iaload, 1, 0, 0, .null, [], 0), (843, .invokevirtual 102, 3, 135, 3, .int 0, [], 855), (846, .if_icmp .eq 308, 3, 0, 1154, .null, [], 0), (849, .iconst 0, 1, 0, 0, .int (0), [], 0), (850, .ireturn, 1, 0, 0, .null, [], 0), (851, .aload_n 1, 1, 1, 0, .null, [], 0), (852, .invokevirtual 103, 3, 69, 1, .int 0, [], 504), (855, .aload_n 2, 1, 2, 0, .null, [], 0), (856, .invokevirtual 106, 3, 136, 1, .int 0, [], 859), (859, .if_icmp .eq 295, 3, 0, 1154, .null, [], 0), (862, .iconst 0, 1, 0, 0, .int (0), [], 0), (863, .ireturn, 1, 0, 0, .null, [], 0), (864, .aload_n 1, 1, 1, 0, .null, [], 0), (865, .aload_n 0, 1, 0, 0, .null, [], 0), (866, .iload_n 3, 1, 3, 0, .null, [], 0), (867, .iconst 1, 1, 0, 0, .int (1), [], 0), (868, .iadd, 1, 0, 0, .null, [], 0), (869, .iaload, 1, 0, 0, .null, [], 0), (870, .invokevirtual 107, 3, 70, 2, .int 0, [], 508), (873, .aload_n 2, 1, 2, 0, .null, [], 0), (874, .aload_n 0, 1, 0, 0, .null, [], 0), (875, .iload_n 3, 1, 3, 0, .null, [], 0), (876, .iconst 1, 1, 0, 0, .int (1), [], 0), (877, .iadd, 1, 0, 0, .null, [], 0), (878, .iaload, 1, 0, 0, .null, [], 0), (879, .invokevirtual 110, 3, 139, 2, .int 0, [], 863), (882, .if_icmp .eq 272, 3, 0, 1154, .null, [], 0), (885, .iconst 0, 1, 0, 0, .int (0), [], 0), (886, .ireturn, 1, 0, 0, .null, [], 0), (887, .aload_n 1, 1, 1, 0, .null, [], 0), (888, .aload_n 0, 1, 0, 0, .null, [], 0), (889, .iload_n 3, 1, 3, 0, .null, [], 0), (890, .iconst 1, 1, 0, 0, .int (1), [], 0), (891, .iadd, 1, 0, 0, .null, [], 0), (892, .iaload, 1, 0, 0, .null, [], 0), (893, .invokevirtual 111, 3, 71, 2, .int 0, [], 512), (896, .aload_n 2, 1, 2, 0, .null, [], 0), (897, .aload_n 0, 1, 0, 0, .null, [], 0)]
def am_r10_L_law : List AMrow := [(898, .iload_n 3, 1, 3, 0, .null, [], 0), (899, .iconst 1, 1, 0, 0, .int (1), [], 0), (900, .iadd, 1, 0, 0, .null, [], 0), (901, .iaload, 1, 0, 0, .null, [], 0), (902, .invokevirtual 114, 3, 140, 2, .int 0, [], 874), (905, .if_icmp .eq 249, 3, 0, 1154, .null, [], 0), (908, .iconst 0, 1, 0, 0, .int (0), [], 0), (909, .ireturn, 1, 0, 0, .null, [], 0), (910, .aload_n 1, 1, 1, 0, .null, [], 0), (911, .aload_n 0, 1, 0, 0, .null, [], 0), (912, .iload_n 3, 1, 3, 0, .null, [], 0), (913, .iconst 1, 1, 0, 0, .int (1), [], 0), (914, .iadd, 1, 0, 0, .null, [], 0), (915, .iaload, 1, 0, 0, .null, [], 0), (916, .aload_n 0, 1, 0, 0, .null, [], 0), (917, .iload_n 3, 1, 3, 0, .null, [], 0), (918, .iconst 2, 1, 0, 0, .int (2), [], 0), (919, .iadd, 1, 0, 0, .null, [], 0), (920, .iaload, 1, 0, 0, .null, [], 0), (921, .invokevirtual 115, 3, 72, 3, .int 0, [], 521), (924, .aload_n 2, 1, 2, 0, .null, [], 0), (925, .aload_n 0, 1, 0, 0, .null, [], 0), (926, .iload_n 3, 1, 3, 0, .null, [], 0), (927, .iconst 1, 1, 0, 0, .int (1), [], 0), (928, .iadd, 1, 0, 0, .null, [], 0), (929, .iaload, 1, 0, 0, .null, [], 0), (930, .aload_n 0, 1, 0, 0, .null, [], 0), (931, .iload_n 3, 1, 3, 0, .null, [], 0), (932, .iconst 2, 1, 0, 0, .int (2), [], 0), (933, .iadd, 1, 0, 0, .null, [], 0), (934, .iaload, 1, 0, 0, .null, [], 0), (935, .invokevirtual 118, 3, 144, 3, .int 0, [], 878), (938, .if_icmp .eq 216, 3, 0, 1154, .null, [], 0), (941, .iconst 0, 1, 0, 0, .int (0), [], 0), (942, .ireturn, 1, 0, 0, .null, [], 0), (943, .aload_n 1, 1, 1, 0, .null, [], 0), (944, .aload_n 0, 1, 0, 0, .null, [], 0), (945, .iload_n 3, 1, 3, 0, .null, [], 0), (946, .iconst 1, 1, 0, 0, .int (1), [], 0), (947, .iadd, 1, 0, 0, .null, [], 0), (948, .iaload, 1, 0, 0, .null, [], 0), (949, .invokevirtual 119, 3, 73, 2, .int 0, [], 546), (952, .aload_n 2, 1, 2, 0, .null, [], 0), (953, .aload_n 0, 1, 0, 0, .null, [], 0), (954, .iload_n 3, 1, 3, 0, .null, [], 0), (955, .iconst 1, 1, 0, 0, .int (1), [], 0), (956, .iadd, 1, 0, 0, .null, [], 0), (957, .iaload, 1, 0, 0, .null, [], 0), (958, .invokevirtual 122, 3, 145, 2, .int 0, [], 893), (961, .if_icmp .eq 193, 3, 0, 1154, .null, [], 0), (964, .iconst 0, 1, 0, 0, .int (0), [], 0), (965, .ireturn, 1, 0, 0, .null, [], 0), (966, .aload_n 1, 1, 1, 0, .null, [], 0), (967, .aload_n 0, 1, 0, 0, .null, [], 0), (968, .iload_n 3, 1, 3, 0, .null, [], 0), (969, .iconst 1, 1, 0, 0, .int (1), [], 0), (970, .iadd, 1, 0, 0, .null, [], 0), (971, .iaload, 1, 0, 0, .null, [], 0), (972, .aload_n 0, 1, 0, 0, .null, [], 0), (973, .iload_n 3, 1, 3, 0, .null, [], 0)]
def am_r11_L_law : List AMrow := [(974, .iconst 2, 1, 0, 0, .int (2), [], 0), (975, .iadd, 1, 0, 0, .null, [], 0), (976, .iaload, 1, 0, 0, .null, [], 0), (977, .aload_n 0, 1, 0, 0, .null, [], 0), (978, .iload_n 3, 1, 3, 0, .null, [], 0), (979, .iconst 3, 1, 0, 0, .int (3), [], 0), (980, .iadd, 1, 0, 0, .null, [], 0), (981, .iaload, 1, 0, 0, .null, [], 0), (982, .aload_n 0, 1, 0, 0, .null, [], 0), (983, .iload_n 3, 1, 3, 0, .null, [], 0), (984, .iconst 4, 1, 0, 0, .int (4), [], 0), (985, .iadd, 1, 0, 0, .null, [], 0), (986, .iaload, 1, 0, 0, .null, [], 0), (987, .aload_n 0, 1, 0, 0, .null, [], 0), (988, .iload_n 3, 1, 3, 0, .null, [], 0), (989, .iconst 5, 1, 0, 0, .int (5), [], 0), (990, .iadd, 1, 0, 0, .null, [], 0), (991, .iaload, 1, 0, 0, .null, [], 0), (992, .aload_n 0, 1, 0, 0, .null, [], 0), (993, .iload_n 3, 1, 3, 0, .null, [], 0), (994, .bipush 6, 2, 0, 0, .int (6), [], 0), (996, .iadd, 1, 0, 0, .null, [], 0), (997, .iaload, 1, 0, 0, .null, [], 0), (998, .invokevirtual 123, 3, 74, 7, .int 0, [], 560), (1001, .aload_n 2, 1, 2, 0, .null, [], 0), (1002, .aload_n 0, 1, 0, 0, .null, [], 0), (1003, .iload_n 3, 1, 3, 0, .null, [], 0), (1004, .iconst 1, 1, 0, 0, .int (1), [], 0), (1005, .iadd, 1, 0, 0, .null, [], 0), (1006, .iaload, 1, 0, 0, .null, [], 0), (1007, .aload_n 0, 1, 0, 0, .null, [], 0), (1008, .iload_n 3, 1, 3, 0, .null, [], 0), (1009, .iconst 2, 1, 0, 0, .int (2), [], 0), (1010, .iadd, 1, 0, 0, .null, [], 0), (1011, .iaload, 1, 0, 0, .null, [], 0), (1012, .aload_n 0, 1, 0, 0, .null, [], 0), (1013, .iload_n 3, 1, 3, 0, .null, [], 0), (1014, .iconst 3, 1, 0, 0, .int (3), [], 0), (1015, .iadd, 1, 0, 0, .null, [], 0), (1016, .iaload, 1, 0, 0, .null, [], 0), (1017, .aload_n 0, 1, 0, 0, .null, [], 0), (1018, .iload_n 3, 1, 3, 0, .null, [], 0), (1019, .iconst 4, 1, 0, 0, .int (4), [], 0), (1020, .iadd, 1, 0, 0, .null, [], 0), (1021, .iaload, 1, 0, 0, .null, [], 0), (1022, .aload_n 0, 1, 0, 0, .null, [], 0), (1023, .iload_n 3, 1, 3, 0, .null, [], 0), (1024, .iconst 5, 1, 0, 0, .int (5), [], 0), (1025, .iadd, 1, 0, 0, .null, [], 0), (1026, .iaload, 1, 0, 0, .null, [], 0), (1027, .aload_n 0, 1, 0, 0, .null, [], 0), (1028, .iload_n 3, 1, 3, 0, .null, [], 0), (1029, .bipush 6, 2, 0, 0, .int (6), [], 0), (1031, .iadd, 1, 0, 0, .null, [], 0), (1032, .iaload, 1, 0, 0, .null, [], 0), (1033, .invokevirtual 127, 3, 147, 7, .int 0, [], 897), (1036, .lcmp, 1, 0, 0, .null, [], 0), (1037, .ifCond .eq 117, 3, 0, 1154, .null, [], 0), (1040, .iconst 0, 1, 0, 0, .int (0), [], 0), (1041, .ireturn, 1, 0, 0, .null, [], 0)]
def am_r12_L_law : List AMrow := [(1042, .aload_n 1, 1, 1, 0, .null, [], 0), (1043, .aload_n 0, 1, 0, 0, .null, [], 0), (1044, .iload_n 3, 1, 3, 0, .null, [], 0), (1045, .iconst 1, 1, 0, 0, .int (1), [], 0), (1046, .iadd, 1, 0, 0, .null, [], 0), (1047, .iaload, 1, 0, 0, .null, [], 0), (1048, .aload_n 0, 1, 0, 0, .null, [], 0), (1049, .iload_n 3, 1, 3, 0, .null, [], 0), (1050, .iconst 2, 1, 0, 0, .int (2), [], 0), (1051, .iadd, 1, 0, 0, .null, [], 0), (1052, .iaload, 1, 0, 0, .null, [], 0), (1053, .aload_n 0, 1, 0, 0, .null, [], 0), (1054, .iload_n 3, 1, 3, 0, .null, [], 0), (1055, .iconst 3, 1, 0, 0, .int (3), [], 0), (1056, .iadd, 1, 0, 0, .null, [], 0), (1057, .iaload, 1, 0, 0, .null, [], 0), (1058, .invokevirtual 128, 3, 75, 4, .int 0, [], 575), (1061, .aload_n 2, 1, 2, 0, .null, [], 0), (1062, .aload_n 0, 1, 0, 0, .null, [], 0), (1063, .iload_n 3, 1, 3, 0, .null, [], 0), (1064, .iconst 1, 1, 0, 0, .int (1), [], 0), (1065, .iadd, 1, 0, 0, .null, [], 0), (1066, .iaload, 1, 0, 0, .null, [], 0), (1067, .aload_n 0, 1, 0, 0, .null, [], 0), (1068, .iload_n 3, 1, 3, 0, .null, [], 0), (1069, .iconst 2, 1, 0, 0, .int (2), [], 0), (1070, .iadd, 1, 0, 0, .null, [], 0), (1071, .iaload, 1, 0, 0, .null, [], 0), (1072, .aload_n 0, 1, 0, 0, .null, [], 0), (1073, .iload_n 3, 1, 3, 0, .null, [], 0), (1074, .iconst 3, 1, 0, 0, .int (3), [], 0), (1075, .iadd, 1, 0, 0, .null, [], 0), (1076, .iaload, 1, 0, 0, .null, [], 0), (1077, .invokevirtual 131, 3, 148, 4, .int 0, [], 906), (1080, .if_icmp .eq 74, 3, 0, 1154, .null, [], 0), (1083, .iconst 0, 1, 0, 0, .int (0), [], 0), (1084, .ireturn, 1, 0, 0, .null, [], 0), (1085, .aload_n 1, 1, 1, 0, .null, [], 0), (1086, .aload_n 0, 1, 0, 0, .null, [], 0), (1087, .iload_n 3, 1, 3, 0, .null, [], 0), (1088, .iconst 1, 1, 0, 0, .int (1), [], 0), (1089, .iadd, 1, 0, 0, .null, [], 0), (1090, .iaload, 1, 0, 0, .null, [], 0), (1091, .invokevirtual 132, 3, 76, 2, .int 0, [], 591), (1094, .aload_n 2, 1, 2, 0, .null, [], 0), (1095, .aload_n 0, 1, 0, 0, .null, [], 0), (1096, .iload_n 3, 1, 3, 0, .null, [], 0), (1097, .iconst 1, 1, 0, 0, .int (1), [], 0), (1098, .iadd, 1, 0, 0, .null, [], 0), (1099, .iaload, 1, 0, 0, .null, [], 0), (1100, .invokevirtual 135, 3, 149, 2, .int 0, [], 911), (1103, .if_icmp .eq 51, 3, 0, 1154, .null, [], 0), (1106, .iconst 0, 1, 0, 0, .int (0), [], 0), (1107, .ireturn, 1, 0, 0, .null, [], 0), (1108, .aload_n 1, 1, 1, 0, .null, [], 0), (1109, .aload_n 0, 1, 0, 0, .null, [], 0), (1110, .iload_n 3, 1, 3, 0, .null, [], 0), (1111, .iconst 1, 1, 0, 0, .int (1), [], 0), (1112, .iadd, 1, 0, 0, .null, [], 0), (1113, .iaload, 1, 0, 0, .null, [], 0)]
def am_r13_L_law : List AMrow := [(1114, .invokevirtual 136, 3, 77, 2, .int 0, [], 599), (1117, .aload_n 2, 1, 2, 0, .null, [], 0), (1118, .aload_n 0, 1, 0, 0, .null, [], 0), (1119, .iload_n 3, 1, 3, 0, .null, [], 0), (1120, .iconst 1, 1, 0, 0, .int (1), [], 0), (1121, .iadd, 1, 0, 0, .null, [], 0), (1122, .iaload, 1, 0, 0, .null, [], 0), (1123, .invokevirtual 139, 3, 150, 2, .int 0, [], 915), (1126, .if_icmp .eq 28, 3, 0, 1154, .null, [], 0), (1129, .iconst 0, 1, 0, 0, .int (0), [], 0), (1130, .ireturn, 1, 0, 0, .null, [], 0), (1131, .aload_n 1, 1, 1, 0, .null, [], 0), (1132, .aload_n 0, 1, 0, 0, .null, [], 0), (1133, .iload_n 3, 1, 3, 0, .null, [], 0), (1134, .iconst 1, 1, 0, 0, .int (1), [], 0), (1135, .iadd, 1, 0, 0, .null, [], 0), (1136, .iaload, 1, 0, 0, .null, [], 0), (1137, .invokevirtual 140, 3, 78, 2, .int 0, [], 603), (1140, .aload_n 2, 1, 2, 0, .null, [], 0), (1141, .aload_n 0, 1, 0, 0, .null, [], 0), (1142, .iload_n 3, 1, 3, 0, .null, [], 0), (1143, .iconst 1, 1, 0, 0, .int (1), [], 0), (1144, .iadd, 1, 0, 0, .null, [], 0), (1145, .iaload, 1, 0, 0, .null, [], 0), (1146, .invokevirtual 143, 3, 151, 2, .int 0, [], 919), (1149, .if_icmp .eq 5, 3, 0, 1154, .null, [], 0), (1152, .iconst 0, 1, 0, 0, .int (0), [], 0), (1153, .ireturn, 1, 0, 0, .null, [], 0), (1154, .iinc 3 7, 3, 3, 0, .int (7), [], 0), (1157, .goto (-1139), 3, 0, 18, .null, [], 0), (1160, .iconst 1, 1, 0, 0, .int (1), [], 0), (1161, .ireturn, 1, 0, 0, .null, [], 0)]
def AM_L_law : AMinfo := ((9, yL_law, cL_law, 4, (some .boolean)), am_r0_L_law ++ am_r1_L_law ++ am_r2_L_law ++ am_r3_L_law ++ am_r4_L_law ++ am_r5_L_law ++ am_r6_L_law ++ am_r7_L_law ++ am_r8_L_law ++ am_r9_L_law ++ am_r10_L_law ++ am_r11_L_law ++ am_r12_L_law ++ am_r13_L_law, (9, 330, true, true), (0, 0, 0, 1, 32, 1))
def am_mt : List AMinfo := [AM_X0_init, AM_X0_add, AM_X0_faultPlace, AM_X0_roomBehind, AM_X0_isOneSign, AM_X0_isCreedSign, AM_X0_endsAct, AM_X0_kindAt, AM_X0_oneAt, AM_X0_targetAt, AM_X1_init, AM_X1_get, AM_X1_set, AM_X1_copyFrom, AM_X2_init, AM_X2_start, AM_X2_passYear, AM_X2_choiceOf, AM_X2_holdersOf, AM_X2_findAgain, AM_X2_heldAsNumber, AM_X3_init, AM_X3_start, AM_X3_tellYears, AM_X3_tellBook, AM_X3_kindDrawn, AM_X3_tellAct, AM_X4_init, AM_X4_copyFrom, AM_X4_isThere, AM_X4_areThere, AM_X4_stands, AM_X4_wallTold, AM_X4_setKin, AM_X4_kinTwos, AM_X4_downFor, AM_X4_carries, AM_X4_wallsFor, AM_X4_carriesAll, AM_X4_leansFor, AM_X4_stepsFrom, AM_X4_doubtOfAll, AM_X4_reasonAgainst, AM_X4_enact, AM_X4_build, AM_X4_tryWall, AM_X4_quake, AM_X5_init, AM_X5_creed, AM_X5_bear, AM_X5_one, AM_X5_leave, AM_X5_kin, AM_X5_stair, AM_X5_say, AM_X5_wipe, AM_X5_fault, AM_X5_judge, AM_X5_done, AM_X5_behind, AM_X5_wall, AM_X5_fell, AM_X5_bears, AM_X5_all, AM_X5_wedges, AM_X5_meet, AM_X5_ways, AM_X5_reach, AM_X5_seen, AM_X5_forget, AM_X5_downs, AM_X5_next, AM_X5_settle, AM_X5_again, AM_X5_climb, AM_X5_book, AM_X5_image, AM_X5_restore, AM_X5_told, AM_X5_isIn, AM_X5_isLean, AM_X5_isPlace, AM_X5_has, AM_X5_leastOf, AM_X5_nearestOf, AM_X5_downsThat, AM_X5_mostLeftBy, AM_X5_stepBehind, AM_X5_lowestTerm, AM_X5_commonDivisor, AM_X5_imageAt, AM_X5_toldOfAll, AM_X5_toldOfOne, AM_X5_toldOfWall, AM_X5_toldOfStair, AM_X6_init, AM_X6_in, AM_X6_has, AM_X6_bits, AM_X6_isThere, AM_X6_isLean, AM_X6_doesBear, AM_X6_creed, AM_X6_bear, AM_X6_one, AM_X6_leave, AM_X6_kin, AM_X6_isPlace, AM_X6_stair, AM_X6_say, AM_X6_wipe, AM_X6_faultOf, AM_X6_fault, AM_X6_asNow, AM_X6_build, AM_X6_climbUp, AM_X6_convert, AM_X6_quake, AM_X6_endYear, AM_X6_goYears, AM_X6_judge, AM_X6_barOfYears, AM_X6_done, AM_X6_behind, AM_X6_wall, AM_X6_fell, AM_X6_bears, AM_X6_areThere, AM_X6_bearsAll, AM_X6_all, AM_X6_wedges, AM_X6_meet, AM_X6_layFar, AM_X6_ways, AM_X6_reach, AM_X6_seen, AM_X6_forget, AM_X6_howIs, AM_X6_fits, AM_X6_downs, AM_X6_next, AM_X6_creedsNow, AM_X6_creedIn, AM_X6_yearOn, AM_X6_settle, AM_X6_again, AM_X6_part, AM_X6_climb, AM_X6_book, AM_X6_image, AM_X6_restore, AM_X6_told, AM_J6_bitCount_0f7a4, AM_L_law]
end
section
def am_mg (k : Nat) : AMinfo := am_mt.getD k AM_X5_isIn
def am_SCR : Nat := 1000000
/-- an index within -/
abbrev am_in (i : Int32) (n : Nat) : Prop := 0 ≤ i.toInt ∧ i.toInt < (n : Int)
def am_up {α : Type} (f : Nat → α) (k : Nat) (x : α) : Nat → α := fun j => bif Nat.beq j k then x else f j
def am_fnd : List AMrow → Nat → Option AMrd
  | [], _ => none
  | r :: t, n => bif Nat.beq r.1 n then some r.2 else am_fnd t n
/-- may a value of category 1 or 2 be laid at this place: the one below is no long -/
def am_kl (L : AMl) : Nat → Bool
  | 0 => true
  | k + 1 => match L[k]? with
    | some (some w) => !(w.category == 2)
    | _ => true
def am_okf : FieldType → Value → Bool
  | .int, .int _ => true
  | .object _, .ref _ => true
  | .array _, .ref _ => true
  | _, _ => false
def am_wfv (n : Nat) : Value → Bool
  | .ref i => Nat.blt i n || Nat.beq i am_SCR
  | _ => true
def am_wfo (n : Nat) : Option Value → Bool
  | some v => am_wfv n v
  | none => true
def am_wfc (n : Nat) : AMc → Bool
  | .inl _ => true
  | .inr o => o.2.all (am_wfv n)
def am_wf (L : AMl) (S : List Value) (h : List AMc) : Bool := L.all (am_wfo h.length) && (S.all (am_wfv h.length) && (h.all (am_wfc h.length) && Nat.blt h.length am_SCR))
def am_ty (c k : Nat) : FieldType := match c with
  | 0 => tyX0 k
  | 1 => tyX1 k
  | 2 => tyX2 k
  | 3 => tyX3 k
  | 4 => tyX4 k
  | 5 => tyX5 k
  | _ => tyX6 k
def am_N (c : Nat) : Nat := match c with
  | 0 => 2
  | 1 => 1
  | 2 => 5
  | 3 => 7
  | 4 => 16
  | 5 => 7
  | _ => 24
def am_df (c : Nat) : List Value := (List.range (am_N c)).map (fun k => defaultValue (am_ty c k))
def am_sw : List (Int32 × Nat) → Int32 → Nat → Nat
  | [], _, d => d
  | q :: t, x, d => if x = q.1 then q.2 else am_sw t x d
abbrev AMst : Type := Nat × AMl × List Value × List AMc
/-- one instruction that neither calls nor returns -/
def am_stp (X : AMx) (M : AMinfo) (pc : Nat) (L : AMl) (S : List Value) (h : List AMc) : Option AMst :=
  match am_fnd (am_rows M) pc with
  | none => none
  | some (ins, len, a, b, v, tab, _) =>
    match ins with
    | .iconst _ => some (pc + len, L, v :: S, h)
    | .bipush _ => some (pc + len, L, v :: S, h)
    | .sipush _ => some (pc + len, L, v :: S, h)
    | .lconst _ => some (pc + len, L, v :: S, h)
    | .ldc _ => some (pc + len, L, v :: S, h)
    | .ldc_w _ => some (pc + len, L, v :: S, h)
    | .ldc2_w _ => some (pc + len, L, v :: S, h)
    | .iload _ => match L[a]? with
      | some (some (.int x)) => some (pc + len, L, .int x :: S, h)
      | _ => none
    | .iload_n _ => match L[a]? with
      | some (some (.int x)) => some (pc + len, L, .int x :: S, h)
      | _ => none
    | .lload _ => match L[a]? with
      | some (some (.long x)) => some (pc + len, L, .long x :: S, h)
      | _ => none
    | .lload_n _ => match L[a]? with
      | some (some (.long x)) => some (pc + len, L, .long x :: S, h)
      | _ => none
    | .aload_n _ => match L[a]? with
      | some (some (.ref x)) => some (pc + len, L, .ref x :: S, h)
      | _ => none
    | .istore _ => match S with
      | .int x :: r => bif am_kl L a then some (pc + len, L.set a (some (.int x)), r, h) else none
      | _ => none
    | .istore_n _ => match S with
      | .int x :: r => bif am_kl L a then some (pc + len, L.set a (some (.int x)), r, h) else none
      | _ => none
    | .lstore _ => match S with
      | .long x :: r => bif am_kl L a then some (pc + len, (L.set a (some (.long x))).set (a + 1) none, r, h) else none
      | _ => none
    | .astore_n _ => match S with
      | .ref x :: r => bif am_kl L a then some (pc + len, L.set a (some (.ref x)), r, h) else none
      | _ => none
    | .iinc _ _ => match L[a]? with
      | some (some (.int x)) => (match v with
        | .int c => bif am_kl L a then some (pc + len, L.set a (some (.int (x + c))), S, h) else none
        | _ => none)
      | _ => none
    | .iadd => match S with
      | .int y :: .int x :: r => some (pc + len, L, .int (x + y) :: r, h)
      | _ => none
    | .isub => match S with
      | .int y :: .int x :: r => some (pc + len, L, .int (x - y) :: r, h)
      | _ => none
    | .imul => match S with
      | .int y :: .int x :: r => some (pc + len, L, .int (x * y) :: r, h)
      | _ => none
    | .iand => match S with
      | .int y :: .int x :: r => some (pc + len, L, .int (x &&& y) :: r, h)
      | _ => none
    | .ior => match S with
      | .int y :: .int x :: r => some (pc + len, L, .int (x ||| y) :: r, h)
      | _ => none
    | .ixor => match S with
      | .int y :: .int x :: r => some (pc + len, L, .int (x ^^^ y) :: r, h)
      | _ => none
    | .ishl => match S with
      | .int y :: .int x :: r => some (pc + len, L, .int (x <<< (y &&& 31)) :: r, h)
      | _ => none
    | .ishr => match S with
      | .int y :: .int x :: r => some (pc + len, L, .int (x >>> (y &&& 31)) :: r, h)
      | _ => none
    | .iushr => match S with
      | .int y :: .int x :: r => some (pc + len, L, .int ((x.toUInt32 >>> (y.toUInt32 &&& Int32.toUInt32 31)).toInt32) :: r, h)
      | _ => none
    | .idiv => match S with
      | .int y :: .int x :: r => if y = 0 then none else some (pc + len, L, .int (x / y) :: r, h)
      | _ => none
    | .irem => match S with
      | .int y :: .int x :: r => if y = 0 then none else some (pc + len, L, .int (x - x / y * y) :: r, h)
      | _ => none
    | .ineg => match S with
      | .int x :: r => some (pc + len, L, .int (-x) :: r, h)
      | _ => none
    | .lmul => match S with
      | .long y :: .long x :: r => some (pc + len, L, .long (x * y) :: r, h)
      | _ => none
    | .ldiv => match S with
      | .long y :: .long x :: r => if y = 0 then none else some (pc + len, L, .long (x / y) :: r, h)
      | _ => none
    | .lrem => match S with
      | .long y :: .long x :: r => if y = 0 then none else some (pc + len, L, .long (x - x / y * y) :: r, h)
      | _ => none
    | .lcmp => match S with
      | .long y :: .long x :: r => some (pc + len, L, .int (lg_cmp x y) :: r, h)
      | _ => none
    | .i2l => match S with
      | .int x :: r => some (pc + len, L, .long x.toInt64 :: r, h)
      | _ => none
    | .dup => match S with
      | w :: r => bif Nat.beq w.category 1 then some (pc + len, L, w :: w :: r, h) else none
      | _ => none
    | .dup2 => match S with
      | w :: u :: r => bif Nat.beq w.category 1 then (bif Nat.beq u.category 1 then some (pc + len, L, w :: u :: w :: u :: r, h) else none) else none
      | _ => none
    | .pop => match S with
      | w :: r => bif Nat.beq w.category 1 then some (pc + len, L, r, h) else none
      | _ => none
    | .goto _ => some (b, L, S, h)
    | .ifCond c _ => match S with
      | .int x :: r => (match c with
        | .eq => some (if x = 0 then b else pc + len, L, r, h)
        | .ne => some (if x = 0 then pc + len else b, L, r, h)
        | .lt => some (if x < 0 then b else pc + len, L, r, h)
        | .ge => some (if 0 ≤ x then b else pc + len, L, r, h)
        | .gt => some (if 0 < x then b else pc + len, L, r, h)
        | .le => some (if x ≤ 0 then b else pc + len, L, r, h))
      | _ => none
    | .if_icmp c _ => match S with
      | .int y :: .int x :: r => (match c with
        | .eq => some (if x = y then b else pc + len, L, r, h)
        | .ne => some (if x = y then pc + len else b, L, r, h)
        | .lt => some (if x < y then b else pc + len, L, r, h)
        | .ge => some (if y ≤ x then b else pc + len, L, r, h)
        | .gt => some (if y < x then b else pc + len, L, r, h)
        | .le => some (if x ≤ y then b else pc + len, L, r, h))
      | _ => none
    | .tableswitch _ _ _ _ => match S with
      | .int x :: r => some (am_sw tab x b, L, r, h)
      | _ => none
    | .getfield _ => match S with
      | .ref o :: r => (match h[o]? with
        | some (.inr (ci, fs)) => bif Nat.beq ci a then (match fs[b]? with
          | some w => some (pc + len, L, w :: r, h)
          | none => none) else none
        | _ => none)
      | _ => none
    | .putfield _ => match S with
      | w :: .ref o :: r => (match h[o]? with
        | some (.inr (ci, fs)) => bif Nat.beq ci a && (Nat.blt b fs.length && am_okf (am_ty a b) w) then some (pc + len, L, r, h.set o (.inr (ci, fs.set b w))) else none
        | _ => none)
      | _ => none
    | .arraylength => match S with
      | .ref o :: r => bif Nat.beq o am_SCR then (bif am_lw M then some (pc + len, L, .int (Int32.ofNat X.1) :: r, h) else none) else (match h[o]? with
        | some (.inl (_, n, _)) => some (pc + len, L, .int (Int32.ofNat n) :: r, h)
        | _ => none)
      | _ => none
    | .iaload => match S with
      | .int i :: .ref o :: r => bif Nat.beq o am_SCR then (bif am_lw M then (if am_in i X.1 then some (pc + len, L, .int (X.2 i.toNatClampNeg) :: r, h) else none) else none) else (match h[o]? with
        | some (.inl (0, n, f)) => if am_in i n then some (pc + len, L, .int (f i.toNatClampNeg) :: r, h) else none
        | _ => none)
      | _ => none
    | .baload => match S with
      | .int i :: .ref o :: r => (match h[o]? with
        | some (.inl (1, n, f)) => if am_in i n then some (pc + len, L, .int (f i.toNatClampNeg) :: r, h) else none
        | _ => none)
      | _ => none
    | .iastore => match S with
      | .int x :: .int i :: .ref o :: r => (match h[o]? with
        | some (.inl (0, n, f)) => if am_in i n then some (pc + len, L, r, h.set o (.inl (0, n, upd f i.toNatClampNeg x))) else none
        | _ => none)
      | _ => none
    | .bastore => match S with
      | .int x :: .int i :: .ref o :: r => (match h[o]? with
        | some (.inl (1, n, f)) => if am_in i n then some (pc + len, L, r, h.set o (.inl (1, n, upd f i.toNatClampNeg (vp_nar .boolean x)))) else none
        | _ => none)
      | _ => none
    | .new _ => bif am_al M && am_wf L S h then some (pc + len, L, .ref h.length :: S, h ++ [.inr (a, am_df a)]) else none
    | .newarray _ => match S with
      | .int n :: r => bif am_al M && am_wf L r h then (if 0 ≤ n.toInt ∧ n.toInt < 100000 then some (pc + len, L, .ref h.length :: r, h ++ [.inl (a, n.toNatClampNeg, fun _ => 0)]) else none) else none
      | _ => none
    | .invokestatic _ => match S with
      | .int y :: r => bif Nat.beq a 997 then (bif Nat.ble 1 (am_fr M) && Nat.ble ((r.map fun v => v.category).sum + 15) (am_lo M) then some (pc + len, L, .int (if 0 ≤ y then y else 0 - y) :: r, h) else none) else bif Nat.beq a 996 then (match r with
        | .int x :: r2 => bif Nat.ble 1 (am_fr M) && Nat.ble ((r2.map fun v => v.category).sum + 15) (am_lo M) then some (pc + len, L, .int (if x < y then y else x) :: r2, h) else none
        | _ => none) else none
      | .long y :: .long x :: r => bif Nat.beq a 995 && (Nat.ble 1 (am_fr M) && Nat.ble ((r.map fun v => v.category).sum + 15) (am_lo M)) then some (pc + len, L, .long (if y < x then x else y) :: r, h) else none
      | _ => none
    | .invokespecial _ => match S with
      | .ref _ :: r => bif Nat.beq a 999 && (Nat.ble 1 (am_fr M) && Nat.ble ((r.map fun v => v.category).sum + 12) (am_lo M)) then some (pc + len, L, r, h) else none
      | _ => none
    | _ => none
/-- a return, with what is returned -/
def am_ret (M : AMinfo) (pc : Nat) (S : List Value) : Option (Option Value) :=
  match am_fnd (am_rows M) pc with
  | none => none
  | some (ins, _) =>
    match ins with
    | .ireturn => match S with
      | [.int x] => (match am_rt M with
        | some .int => some (some (.int x))
        | some .boolean => if x = 0 then some (some (.int 0)) else if x = 1 then some (some (.int 1)) else none
        | _ => none)
      | _ => none
    | .lreturn => match S with
      | [.long x] => (match am_rt M with
        | some .long => some (some (.long x))
        | _ => none)
      | _ => none
    | .areturn => match S with
      | [.ref x] => (match am_rt M with
        | some (.object _) => some (some (.ref x))
        | _ => none)
      | _ => none
    | .return_ => match S with
      | [] => (match am_rt M with
        | none => some none
        | _ => none)
      | _ => none
    | _ => none
/-- has the receiver the callee's class -/
def am_rcv (K : AMinfo) (h : List AMc) : List Value → Bool
  | .ref o :: _ => match h[o]? with
    | some (.inr (ci, _)) => Nat.beq ci (am_cls K)
    | _ => false
  | _ => false
def am_sl : List Value → AMl
  | [] => []
  | v :: t => bif Nat.beq v.category 2 then some v :: none :: am_sl t else some v :: am_sl t
def am_cok (M K : AMinfo) (b : Nat) (S : List Value) : Bool := Nat.ble (am_sl ((S.take b).reverse)).length (am_nL K) && ((Nat.ble b S.length && Nat.ble (am_fr K + 1) (am_fr M)) && (Nat.ble (8 + (am_nL K + 11) + am_lo K) (am_lo M) && (Nat.ble ((S.drop b).map fun v => v.category).sum 8 && (!(am_al K) || am_al M))))
/-- a call: the callee's number, what it is given, what stays -/
def am_cal (M : AMinfo) (pc : Nat) (S : List Value) (h : List AMc) : Option (Nat × List Value × List Value) :=
  match am_fnd (am_rows M) pc with
  | none => none
  | some (ins, _, a, b, _) =>
    match ins with
    | .invokevirtual _ => bif Nat.blt a 900 && am_cok M (am_mg a) b S && am_rcv (am_mg a) h ((S.take b).reverse) then some (a, (S.take b).reverse, S.drop b) else none
    | .invokestatic _ => bif Nat.blt a 900 && am_cok M (am_mg a) b S then some (a, (S.take b).reverse, S.drop b) else none
    | .invokespecial _ => bif Nat.blt a 900 && am_cok M (am_mg a) b S && am_rcv (am_mg a) h ((S.take b).reverse) then some (a, (S.take b).reverse, S.drop b) else none
    | _ => none
def am_ent (M : AMinfo) (as : List Value) : AMl := am_sl as ++ List.replicate (am_nL M - (am_sl as).length) none
/-- behind a call that makes cells: what the caller holds is of the cells that were there -/
def am_bk (K : AMinfo) (L : AMl) (r : List Value) (h h1 : List AMc) : Bool := bif am_al K then L.all (am_wfo h.length) && (r.all (am_wfv h.length) && Nat.ble h1.length am_SCR) else true
def am_run (X : AMx) : Nat → AMinfo → Nat → AMl → List Value → List AMc → Option (Option Value × List AMc)
  | 0, _, _, _, _, _ => none
  | n + 1, M, pc, L, S, h =>
    match am_stp X M pc L S h with
    | some st => am_run X n M st.1 st.2.1 st.2.2.1 st.2.2.2
    | none => match am_ret M pc S with
      | some r => some (r, h)
      | none => match am_cal M pc S h with
        | none => none
        | some q => match am_run X n (am_mg q.1) 0 (am_ent (am_mg q.1) q.2.1) [] h with
          | none => none
          | some r => bif am_bk (am_mg q.1) L q.2.2 h r.2 then am_run X n M (pc + 3) L (r.1.toList ++ q.2.2) r.2 else none
theorem am_run_mono (X : AMx) : ∀ (n : Nat) (M : AMinfo) (pc : Nat) (L : AMl) (S : List Value) (h : List AMc) (r : Option Value × List AMc), am_run X n M pc L S h = some r → am_run X (n + 1) M pc L S h = some r := by
  intro n
  induction n with
  | zero => intro M pc L S h r hr; simp [am_run] at hr
  | succ n ih =>
    intro M pc L S h r hr
    rw [am_run] at hr ⊢
    cases h1 : am_stp X M pc L S h with
    | some st =>
      simp only [h1] at hr ⊢
      exact ih _ _ _ _ _ _ hr
    | none =>
      simp only [h1] at hr ⊢
      cases h2 : am_ret M pc S with
      | some v => simp only [h2] at hr ⊢; exact hr
      | none =>
        simp only [h2] at hr ⊢
        cases h3 : am_cal M pc S h with
        | none => simp only [h3] at hr; cases hr
        | some q =>
          simp only [h3] at hr ⊢
          cases h4 : am_run X n (am_mg q.1) 0 (am_ent (am_mg q.1) q.2.1) [] h with
          | none => simp only [h4] at hr; cases hr
          | some w =>
            simp only [h4] at hr
            simp only [ih _ _ _ _ _ _ h4]
            cases h5 : am_bk (am_mg q.1) L q.2.2 h w.2 with
            | false => simp only [h5, cond_false] at hr; cases hr
            | true =>
              simp only [h5, cond_true] at hr ⊢
              exact ih _ _ _ _ _ _ hr
theorem am_run_le (X : AMx) {n k : Nat} (hk : n ≤ k) {M : AMinfo} {pc : Nat} {L : AMl} {S : List Value} {h : List AMc} {r : Option Value × List AMc} (hr : am_run X n M pc L S h = some r) : am_run X k M pc L S h = some r := by
  obtain ⟨d, rfl⟩ := Nat.exists_eq_add_of_le hk
  induction d with
  | zero => exact hr
  | succ d ih => exact am_run_mono X _ _ _ _ _ _ _ (ih (by omega))
/-- what a state comes to -/
noncomputable def am_E (X : AMx) (M : AMinfo) (pc : Nat) (L : AMl) (S : List Value) (h : List AMc) : Option (Option Value × List AMc) :=
  @dite (Option (Option Value × List AMc)) (∃ r, ∃ n, am_run X n M pc L S h = some r) (Classical.propDecidable _) (fun hx => some hx.choose) (fun _ => none)
theorem am_E_iff {X : AMx} {M : AMinfo} {pc : Nat} {L : AMl} {S : List Value} {h : List AMc} {r : Option Value × List AMc} : am_E X M pc L S h = some r ↔ ∃ n, am_run X n M pc L S h = some r := by
  unfold am_E
  constructor
  · intro hr
    split at hr
    · rename_i hx
      obtain ⟨n, hn⟩ := hx.choose_spec
      rw [← Option.some.inj hr]
      exact ⟨n, hn⟩
    · cases hr
  · intro hr
    obtain ⟨n, hn⟩ := hr
    have hx : ∃ r, ∃ n, am_run X n M pc L S h = some r := ⟨r, n, hn⟩
    rw [dif_pos hx]
    obtain ⟨k, hk⟩ := hx.choose_spec
    have h1 := am_run_le X (Nat.le_max_left n k) hn
    have h2 := am_run_le X (Nat.le_max_right n k) hk
    rw [h1] at h2
    exact h2.symm
theorem am_E_ext {X : AMx} {M : AMinfo} {pc pc' : Nat} {L L' : AMl} {S S' : List Value} {h h' : List AMc} (e : ∀ r, (∃ n, am_run X n M pc L S h = some r) ↔ (∃ n, am_run X n M pc' L' S' h' = some r)) : am_E X M pc L S h = am_E X M pc' L' S' h' := by
  apply Option.ext
  intro r
  rw [am_E_iff, am_E_iff]
  exact e r
theorem am_E_step {X : AMx} {M : AMinfo} {pc : Nat} {L : AMl} {S : List Value} {h : List AMc} {st : AMst} (e : am_stp X M pc L S h = some st) : am_E X M pc L S h = am_E X M st.1 st.2.1 st.2.2.1 st.2.2.2 := by
  apply am_E_ext
  intro r
  constructor
  · intro hr
    obtain ⟨n, hn⟩ := hr
    cases n with
    | zero => simp [am_run] at hn
    | succ n =>
      rw [am_run] at hn
      simp only [e] at hn
      exact ⟨n, hn⟩
  · intro hr
    obtain ⟨n, hn⟩ := hr
    refine ⟨n + 1, ?_⟩
    rw [am_run]
    simp only [e]
    exact hn
def am_it (X : AMx) (M : AMinfo) : Nat → AMst → Option AMst
  | 0, st => some st
  | k + 1, st => match am_stp X M st.1 st.2.1 st.2.2.1 st.2.2.2 with
    | some st' => am_it X M k st'
    | none => none
theorem am_E_n' {X : AMx} {M : AMinfo} : ∀ (k : Nat) (st st' : AMst), am_it X M k st = some st' → am_E X M st.1 st.2.1 st.2.2.1 st.2.2.2 = am_E X M st'.1 st'.2.1 st'.2.2.1 st'.2.2.2 := by
  intro k
  induction k with
  | zero => intro st st' e; rw [am_it] at e; cases e; rfl
  | succ k ih =>
    intro st st' e
    rw [am_it] at e
    cases h1 : am_stp X M st.1 st.2.1 st.2.2.1 st.2.2.2 with
    | none => simp only [h1] at e; cases e
    | some s1 =>
      simp only [h1] at e
      rw [am_E_step h1]
      exact ih _ _ e
theorem am_E_n {X : AMx} {M : AMinfo} (k : Nat) {pc pc' : Nat} {L L' : AMl} {S S' : List Value} {h h' : List AMc} (e : am_it X M k (pc, L, S, h) = some (pc', L', S', h')) : am_E X M pc L S h = am_E X M pc' L' S' h' := am_E_n' k _ _ e
theorem am_E_br {X : AMx} {M : AMinfo} (k : Nat) {c : Prop} [Decidable c] {pc p q : Nat} {L L' : AMl} {S S' : List Value} {h h' : List AMc} (e : am_it X M k (pc, L, S, h) = some (if c then p else q, L', S', h')) : am_E X M pc L S h = if c then am_E X M p L' S' h' else am_E X M q L' S' h' := by
  rw [am_E_n k e]
  split <;> rfl
theorem am_E_g {X : AMx} {M : AMinfo} {c : Prop} [Decidable c] {pc pc' : Nat} {L L' : AMl} {S S' : List Value} {h h' : List AMc} (e : am_stp X M pc L S h = if c then some (pc', L', S', h') else none) (e2 : am_ret M pc S = none) (e3 : am_cal M pc S h = none) : am_E X M pc L S h = if c then am_E X M pc' L' S' h' else none := by
  by_cases hc : c
  · rw [if_pos hc] at e ⊢
    exact am_E_step e
  · rw [if_neg hc] at e ⊢
    cases h1 : am_E X M pc L S h with
    | none => rfl
    | some r =>
      obtain ⟨n, hn⟩ := am_E_iff.mp h1
      cases n with
      | zero => simp [am_run] at hn
      | succ n => rw [am_run] at hn; simp only [e, e2, e3] at hn; cases hn
theorem am_E_gr {X : AMx} {M : AMinfo} (k : Nat) {c : Prop} [Decidable c] {pc p pc' : Nat} {L L1 L' : AMl} {S S1 S' : List Value} {h h1 h' : List AMc} (e0 : am_it X M k (pc, L, S, h) = some (p, L1, S1, h1)) (e : am_stp X M p L1 S1 h1 = if c then some (pc', L', S', h') else none) (e2 : am_ret M p S1 = none) (e3 : am_cal M p S1 h1 = none) : am_E X M pc L S h = if c then am_E X M pc' L' S' h' else none := (am_E_n k e0).trans (am_E_g e e2 e3)
theorem am_E_gn {X : AMx} {M : AMinfo} (k : Nat) {c : Prop} [Decidable c] {pc p pc' : Nat} {L L1 L' : AMl} {S S1 S' : List Value} {h h1 h' : List AMc} (e0 : am_it X M k (pc, L, S, h) = some (p, L1, S1, h1)) (e : am_stp X M p L1 S1 h1 = if c then none else some (pc', L', S', h')) (e2 : am_ret M p S1 = none) (e3 : am_cal M p S1 h1 = none) : am_E X M pc L S h = if c then none else am_E X M pc' L' S' h' := by
  rw [am_E_n k e0, am_E_g (c := ¬ c) (pc' := pc') (L' := L') (S' := S') (h' := h') (by rw [e]; by_cases hc : c <;> simp [hc]) e2 e3]
  by_cases hc : c <;> simp [hc]
theorem am_E_ret {X : AMx} {M : AMinfo} (k : Nat) {pc p : Nat} {L L1 : AMl} {S S1 : List Value} {h h1 : List AMc} {v : Option Value} (e0 : am_it X M k (pc, L, S, h) = some (p, L1, S1, h1)) (e : am_stp X M p L1 S1 h1 = none) (e2 : am_ret M p S1 = some v) : am_E X M pc L S h = some (v, h1) := by
  rw [am_E_n k e0]
  exact am_E_iff.mpr ⟨1, by rw [am_run]; simp only [e, e2]⟩
/-- a method's answer and cells, from its arguments -/
noncomputable def am_D (X : AMx) (k : Nat) (as : List Value) (h : List AMc) : Option (Option Value × List AMc) := am_E X (am_mg k) 0 (am_ent (am_mg k) as) [] h
/-- behind a call: what it answered goes onto the stack -/
noncomputable def am_C (X : AMx) (M : AMinfo) (p : Nat) (L : AMl) (S : List Value) (o : Option (Option Value × List AMc)) : Option (Option Value × List AMc) := o.bind (fun r => am_E X M p L (r.1.toList ++ S) r.2)
theorem am_C_v {X : AMx} {M : AMinfo} {p : Nat} {L : AMl} {S : List Value} {v : Value} {h : List AMc} : am_C X M p L S (some (some v, h)) = am_E X M p L (v :: S) h := rfl
theorem am_C_0 {X : AMx} {M : AMinfo} {p : Nat} {L : AMl} {S : List Value} {h : List AMc} : am_C X M p L S (some (none, h)) = am_E X M p L S h := rfl
theorem am_C_n {X : AMx} {M : AMinfo} {p : Nat} {L : AMl} {S : List Value} : am_C X M p L S none = none := rfl
theorem am_C_if {X : AMx} {M : AMinfo} {p : Nat} {L : AMl} {S : List Value} {c : Prop} [Decidable c] {a b : Option (Option Value × List AMc)} : am_C X M p L S (if c then a else b) = if c then am_C X M p L S a else am_C X M p L S b := by split <;> rfl
theorem am_E_call {X : AMx} {M : AMinfo} (k : Nat) {pc p d : Nat} {L L1 : AMl} {S S1 as rest : List Value} {h h1 : List AMc} (e0 : am_it X M k (pc, L, S, h) = some (p, L1, S1, h1)) (e : am_stp X M p L1 S1 h1 = none) (e2 : am_ret M p S1 = none) (e3 : am_cal M p S1 h1 = some (d, as, rest)) (e4 : am_al (am_mg d) = false) : am_E X M pc L S h = am_C X M (p + 3) L1 rest (am_D X d as h1) := by
  rw [am_E_n k e0]
  have hb : ∀ L r h0 h2, am_bk (am_mg d) L r h0 h2 = true := fun L r h0 h2 => by unfold am_bk; rw [e4]; rfl
  apply Option.ext
  intro w
  unfold am_C
  rw [am_E_iff, Option.bind_eq_some_iff]
  constructor
  · intro hr
    obtain ⟨n, hn⟩ := hr
    cases n with
    | zero => simp [am_run] at hn
    | succ n =>
      rw [am_run] at hn
      simp only [e, e2, e3] at hn
      cases h4 : am_run X n (am_mg d) 0 (am_ent (am_mg d) as) [] h1 with
      | none => simp only [h4] at hn; cases hn
      | some r =>
        simp only [h4, hb, cond_true] at hn
        exact ⟨r, am_E_iff.mpr ⟨n, h4⟩, am_E_iff.mpr ⟨n, hn⟩⟩
  · intro hr
    obtain ⟨r, g1, g2⟩ := hr
    obtain ⟨n1, g1⟩ := am_E_iff.mp g1
    obtain ⟨n2, g2⟩ := am_E_iff.mp g2
    refine ⟨max n1 n2 + 1, ?_⟩
    rw [am_run]
    simp only [e, e2, e3, am_run_le X (Nat.le_max_left n1 n2) g1, hb, cond_true]
    exact am_run_le X (Nat.le_max_right n1 n2) g2
theorem am_E_retz {X : AMx} {M : AMinfo} (k : Nat) {pc p : Nat} {L L1 : AMl} {S : List Value} {x : Int32} {h h1 : List AMc} (e0 : am_it X M k (pc, L, S, h) = some (p, L1, [.int x], h1)) (e : am_stp X M p L1 [.int x] h1 = none) (e2 : am_ret M p [.int x] = if x = 0 then some (some (.int 0)) else if x = 1 then some (some (.int 1)) else none) (e3 : am_cal M p [.int x] h1 = none) : am_E X M pc L S h = if x = 0 then some (some (.int 0), h1) else if x = 1 then some (some (.int 1), h1) else none := by
  by_cases c0 : x = 0
  · rw [if_pos c0] at e2 ⊢
    exact am_E_ret k e0 e e2
  · rw [if_neg c0] at e2 ⊢
    by_cases c1 : x = 1
    · rw [if_pos c1] at e2 ⊢
      exact am_E_ret k e0 e e2
    · rw [if_neg c1] at e2 ⊢
      rw [am_E_n k e0]
      cases h1' : am_E X M p L1 [.int x] h1 with
      | none => rfl
      | some r =>
        obtain ⟨n, hn⟩ := am_E_iff.mp h1'
        cases n with
        | zero => simp [am_run] at hn
        | succ n => rw [am_run] at hn; simp only [e, e2, e3] at hn; cases hn
def am_swf {α : Type} (f : Nat → α) : List (Int32 × Nat) → Int32 → Nat → α
  | [], _, d => f d
  | q :: t, x, d => if x = q.1 then f q.2 else am_swf f t x d
theorem am_sw_f {α : Type} (f : Nat → α) (x : Int32) (d : Nat) : ∀ t : List (Int32 × Nat), f (am_sw t x d) = am_swf f t x d
  | [] => rfl
  | q :: t => by
    show f (if x = q.1 then q.2 else am_sw t x d) = (if x = q.1 then f q.2 else am_swf f t x d)
    by_cases h : x = q.1
    · rw [if_pos h, if_pos h]
    · rw [if_neg h, if_neg h, am_sw_f f x d t]
theorem am_E_sw {X : AMx} {M : AMinfo} (k : Nat) {pc : Nat} {t : List (Int32 × Nat)} {x : Int32} {d : Nat} {L L' : AMl} {S S' : List Value} {h h' : List AMc} {r : Option (Option Value × List AMc)} (e : am_it X M k (pc, L, S, h) = some (am_sw t x d, L', S', h')) (e2 : am_swf (fun p => am_E X M p L' S' h') t x d = r) : am_E X M pc L S h = r := (am_E_n k e).trans ((am_sw_f (fun p => am_E X M p L' S' h') x d t).trans e2)
end
section
/-! Are the rows what the bytes say, and their words in the tables? -/
def am_TB : List Cond := lw_tbl.filter goodWord
theorem am_TB_good : ∀ w ∈ am_TB, (w.onTables && w.keeps) = true ∨ ∃ ty, w = .arrayClass ty := fun w h => good_of_word (List.mem_filter.mp h).2
def am_c0 : List Cond := [Cond.selects "PlumbCreeds$Telling" ⟨"PlumbCreeds$Telling", "start", "(LPlumbCreeds$Valley;)V"⟩ ⟨"PlumbCreeds$Telling", "start", "(LPlumbCreeds$Valley;)V"⟩, Cond.selects "PlumbCreeds$Telling" ⟨"PlumbCreeds$Telling", "tellAct", "(III)I"⟩ ⟨"PlumbCreeds$Telling", "tellAct", "(III)I"⟩, Cond.selects "PlumbCreeds$Valley" ⟨"PlumbCreeds$Valley", "build", "(II)V"⟩ ⟨"PlumbCreeds$Valley", "build", "(II)V"⟩, Cond.selects "PlumbCreeds$Valley" ⟨"PlumbCreeds$Valley", "tryWall", "(II)Z"⟩ ⟨"PlumbCreeds$Valley", "tryWall", "(II)Z"⟩, Cond.selects "PlumbCreeds$Valley" ⟨"PlumbCreeds$Valley", "quake", "()V"⟩ ⟨"PlumbCreeds$Valley", "quake", "()V"⟩, Cond.selects "PlumbCreeds" ⟨"PlumbCreeds", "stepBehind", "(IIII)I"⟩ ⟨"PlumbCreeds", "stepBehind", "(IIII)I"⟩, Cond.selects "PlumbCreeds" ⟨"PlumbCreeds", "mostLeftBy", "(I)I"⟩ ⟨"PlumbCreeds", "mostLeftBy", "(I)I"⟩, Cond.selects "PlumbCreeds$Settling" ⟨"PlumbCreeds$Settling", "choiceOf", "(ILPlumbCreeds$Valley;)I"⟩ ⟨"PlumbCreeds$Settling", "choiceOf", "(ILPlumbCreeds$Valley;)I"⟩, Cond.selects "PlumbCreeds$Settling" ⟨"PlumbCreeds$Settling", "holdersOf", "(II)I"⟩ ⟨"PlumbCreeds$Settling", "holdersOf", "(II)I"⟩, Cond.selects "PlumbCreeds$Settling" ⟨"PlumbCreeds$Settling", "heldAsNumber", "()I"⟩ ⟨"PlumbCreeds$Settling", "heldAsNumber", "()I"⟩, Cond.selects "PlumbCreeds" ⟨"PlumbCreeds", "imageAt", "(I)LPlumbCreeds$Valley;"⟩ ⟨"PlumbCreeds", "imageAt", "(I)LPlumbCreeds$Valley;"⟩, Cond.selects "PlumbCreeds" ⟨"PlumbCreeds", "toldOfAll", "(I)I"⟩ ⟨"PlumbCreeds", "toldOfAll", "(I)I"⟩, Cond.selects "PlumbCreeds" ⟨"PlumbCreeds", "toldOfOne", "(II)I"⟩ ⟨"PlumbCreeds", "toldOfOne", "(II)I"⟩, Cond.selects "PlumbCreeds" ⟨"PlumbCreeds", "toldOfWall", "(II)I"⟩ ⟨"PlumbCreeds", "toldOfWall", "(II)I"⟩, Cond.selects "PlumbCreeds" ⟨"PlumbCreeds", "toldOfStair", "(I)I"⟩ ⟨"PlumbCreeds", "toldOfStair", "(I)I"⟩, Cond.selects "PlumbCreedsModel" ⟨"PlumbCreedsModel", "isThere", "(I)Z"⟩ ⟨"PlumbCreedsModel", "isThere", "(I)Z"⟩, Cond.selects "PlumbCreedsModel" ⟨"PlumbCreedsModel", "faultOf", "()I"⟩ ⟨"PlumbCreedsModel", "faultOf", "()I"⟩, Cond.selects "PlumbCreedsModel" ⟨"PlumbCreedsModel", "goYears", "()I"⟩ ⟨"PlumbCreedsModel", "goYears", "()I"⟩, Cond.selects "PlumbCreedsModel" ⟨"PlumbCreedsModel", "asNow", "()V"⟩ ⟨"PlumbCreedsModel", "asNow", "()V"⟩, Cond.selects "PlumbCreedsModel" ⟨"PlumbCreedsModel", "endYear", "()I"⟩ ⟨"PlumbCreedsModel", "endYear", "()I"⟩, Cond.selects "PlumbCreedsModel" ⟨"PlumbCreedsModel", "quake", "()V"⟩ ⟨"PlumbCreedsModel", "quake", "()V"⟩, Cond.selects "PlumbCreedsModel" ⟨"PlumbCreedsModel", "climbUp", "(II)I"⟩ ⟨"PlumbCreedsModel", "climbUp", "(II)I"⟩, Cond.selects "PlumbCreedsModel" ⟨"PlumbCreedsModel", "doesBear", "(II)Z"⟩ ⟨"PlumbCreedsModel", "doesBear", "(II)Z"⟩, Cond.selects "PlumbCreedsModel" ⟨"PlumbCreedsModel", "convert", "(II)I"⟩ ⟨"PlumbCreedsModel", "convert", "(II)I"⟩, Cond.selects "PlumbCreedsModel" ⟨"PlumbCreedsModel", "build", "(II)I"⟩ ⟨"PlumbCreedsModel", "build", "(II)I"⟩, Cond.selects "PlumbCreedsModel" ⟨"PlumbCreedsModel", "barOfYears", "()I"⟩ ⟨"PlumbCreedsModel", "barOfYears", "()I"⟩, Cond.selects "PlumbCreedsModel" ⟨"PlumbCreedsModel", "areThere", "(I)Z"⟩ ⟨"PlumbCreedsModel", "areThere", "(I)Z"⟩, Cond.selects "PlumbCreedsModel" ⟨"PlumbCreedsModel", "bearsAll", "(II)Z"⟩ ⟨"PlumbCreedsModel", "bearsAll", "(II)Z"⟩, Cond.selects "PlumbCreedsModel" ⟨"PlumbCreedsModel", "layFar", "(II)V"⟩ ⟨"PlumbCreedsModel", "layFar", "(II)V"⟩, Cond.selects "PlumbCreedsModel" ⟨"PlumbCreedsModel", "fits", "(I)Z"⟩ ⟨"PlumbCreedsModel", "fits", "(I)Z"⟩, Cond.selects "PlumbCreedsModel" ⟨"PlumbCreedsModel", "creedsNow", "()I"⟩ ⟨"PlumbCreedsModel", "creedsNow", "()I"⟩, Cond.selects "PlumbCreedsModel" ⟨"PlumbCreedsModel", "yearOn", "(I)I"⟩ ⟨"PlumbCreedsModel", "yearOn", "(I)I"⟩]
def am_c1 : List Cond := [(Jvm.Cond.initialized "PlumbCreedsLaw"), (Jvm.Cond.initialized "PlumbCreeds"), (Jvm.Cond.initialized "PlumbCreeds$Valley"), (Jvm.Cond.initialized "PlumbCreeds$Row"), (Jvm.Cond.initialized "java/lang/Math"), (Jvm.Cond.initialized "PlumbCreeds$Pad"), (Jvm.Cond.initialized "PlumbCreeds$Telling"), (Jvm.Cond.initialized "PlumbCreeds$Settling"), (Jvm.Cond.initialized "PlumbCreedsModel"), (Jvm.Cond.initialized "java/lang/Integer"), (Jvm.Cond.classLink "PlumbCreedsLaw" (7 : Nat) "PlumbCreeds"), (Jvm.Cond.instantiable "PlumbCreeds" (7 : Nat)), (Jvm.Cond.methodLink "PlumbCreedsLaw" (9 : Nat) ({ cls := "PlumbCreeds", name := "<init>", desc := "()V" } : Jvm.MethodName)), (Jvm.Cond.instanceMethod ({ cls := "PlumbCreeds", name := "<init>", desc := "()V" } : Jvm.MethodName)), (Jvm.Cond.code ({ cls := "PlumbCreeds", name := "<init>", desc := "()V" } : Jvm.MethodName) prog_1_method_1_code (1 : Nat) (Option.none : Option Jvm.ClassFile.FieldType)), (Jvm.Cond.methodLink "PlumbCreeds" (1 : Nat) ({ cls := "java/lang/Object", name := "<init>", desc := "()V" } : Jvm.MethodName)), (Jvm.Cond.instanceMethod ({ cls := "java/lang/Object", name := "<init>", desc := "()V" } : Jvm.MethodName)), (Jvm.Cond.code ({ cls := "java/lang/Object", name := "<init>", desc := "()V" } : Jvm.MethodName) object_method_1_code (1 : Nat) (Option.none : Option Jvm.ClassFile.FieldType)), (Jvm.Cond.classLink "PlumbCreeds" (7 : Nat) "PlumbCreeds$Valley"), (Jvm.Cond.instantiable "PlumbCreeds$Valley" (16 : Nat)), (Jvm.Cond.methodLink "PlumbCreeds" (9 : Nat) ({ cls := "PlumbCreeds$Valley", name := "<init>", desc := "()V" } : Jvm.MethodName)), (Jvm.Cond.instanceMethod ({ cls := "PlumbCreeds$Valley", name := "<init>", desc := "()V" } : Jvm.MethodName)), (Jvm.Cond.code ({ cls := "PlumbCreeds$Valley", name := "<init>", desc := "()V" } : Jvm.MethodName) prog_6_method_1_code (1 : Nat) (Option.none : Option Jvm.ClassFile.FieldType)), (Jvm.Cond.methodLink "PlumbCreeds$Valley" (3 : Nat) ({ cls := "java/lang/Object", name := "<init>", desc := "()V" } : Jvm.MethodName)), (Jvm.Cond.classLink "PlumbCreeds$Valley" (9 : Nat) "PlumbCreeds$Row"), (Jvm.Cond.instantiable "PlumbCreeds$Row" (1 : Nat)), (Jvm.Cond.methodLink "PlumbCreeds$Valley" (11 : Nat) ({ cls := "PlumbCreeds$Row", name := "<init>", desc := "(I)V" } : Jvm.MethodName)), (Jvm.Cond.instanceMethod ({ cls := "PlumbCreeds$Row", name := "<init>", desc := "(I)V" } : Jvm.MethodName)), (Jvm.Cond.code ({ cls := "PlumbCreeds$Row", name := "<init>", desc := "(I)V" } : Jvm.MethodName) prog_3_method_1_code (2 : Nat) (Option.none : Option Jvm.ClassFile.FieldType)), (Jvm.Cond.methodLink "PlumbCreeds$Row" (1 : Nat) ({ cls := "java/lang/Object", name := "<init>", desc := "()V" } : Jvm.MethodName)), (Jvm.Cond.methodLink "PlumbCreeds$Row" (7 : Nat) ({ cls := "java/lang/Math", name := "max", desc := "(II)I" } : Jvm.MethodName)), (Jvm.Cond.static ({ cls := "java/lang/Math", name := "max", desc := "(II)I" } : Jvm.MethodName))]
def am_c2 : List Cond := [(Jvm.Cond.code ({ cls := "java/lang/Math", name := "max", desc := "(II)I" } : Jvm.MethodName) prog_10_method_65_code (2 : Nat) (Option.some Jvm.ClassFile.FieldType.int)), (Jvm.Cond.fieldLink "PlumbCreeds$Row" (13 : Nat) "PlumbCreeds$Row" "cells" "[I"), (Jvm.Cond.laysFinal "PlumbCreeds$Row" "PlumbCreeds$Row" "cells" "[I"), (Jvm.Cond.soleField "PlumbCreeds$Row" "cells"), (Jvm.Cond.superclass "PlumbCreeds$Row" "java/lang/Object"), (Jvm.Cond.arrayClass Jvm.ClassFile.FieldType.int), (Jvm.Cond.constant "PlumbCreeds$Valley" (63 : Nat) (524287 : Int32)), (Jvm.Cond.methodLink "PlumbCreeds$Valley" (67 : Nat) ({ cls := "PlumbCreeds$Row", name := "set", desc := "(II)V" } : Jvm.MethodName)), (Jvm.Cond.instanceMethod ({ cls := "PlumbCreeds$Row", name := "set", desc := "(II)V" } : Jvm.MethodName)), (Jvm.Cond.selects "PlumbCreeds$Row" ({ cls := "PlumbCreeds$Row", name := "set", desc := "(II)V" } : Jvm.MethodName) ({ cls := "PlumbCreeds$Row", name := "set", desc := "(II)V" } : Jvm.MethodName)), (Jvm.Cond.code ({ cls := "PlumbCreeds$Row", name := "set", desc := "(II)V" } : Jvm.MethodName) prog_3_method_3_code (3 : Nat) (Option.none : Option Jvm.ClassFile.FieldType)), (Jvm.Cond.fieldLink "PlumbCreeds$Valley" (14 : Nat) "PlumbCreeds$Valley" "downOf" "LPlumbCreeds$Row;"), (Jvm.Cond.fieldLink "PlumbCreeds" (55 : Nat) "PlumbCreeds$Valley" "downOf" "LPlumbCreeds$Row;"), (Jvm.Cond.fieldLink "PlumbCreeds$Valley" (20 : Nat) "PlumbCreeds$Valley" "bearing" "I"), (Jvm.Cond.fieldLink "PlumbCreeds" (69 : Nat) "PlumbCreeds$Valley" "bearing" "I"), (Jvm.Cond.fieldLink "PlumbCreeds$Valley" (24 : Nat) "PlumbCreeds$Valley" "people" "I"), (Jvm.Cond.fieldLink "PlumbCreeds$Settling" (61 : Nat) "PlumbCreeds$Valley" "people" "I"), (Jvm.Cond.fieldLink "PlumbCreeds" (72 : Nat) "PlumbCreeds$Valley" "people" "I"), (Jvm.Cond.fieldLink "PlumbCreeds$Valley" (27 : Nat) "PlumbCreeds$Valley" "creedOf" "LPlumbCreeds$Row;"), (Jvm.Cond.fieldLink "PlumbCreeds$Settling" (33 : Nat) "PlumbCreeds$Valley" "creedOf" "LPlumbCreeds$Row;"), (Jvm.Cond.fieldLink "PlumbCreeds" (75 : Nat) "PlumbCreeds$Valley" "creedOf" "LPlumbCreeds$Row;"), (Jvm.Cond.fieldLink "PlumbCreeds$Valley" (30 : Nat) "PlumbCreeds$Valley" "doubtOf" "LPlumbCreeds$Row;"), (Jvm.Cond.fieldLink "PlumbCreeds" (78 : Nat) "PlumbCreeds$Valley" "doubtOf" "LPlumbCreeds$Row;"), (Jvm.Cond.fieldLink "PlumbCreeds$Valley" (33 : Nat) "PlumbCreeds$Valley" "kinOf" "LPlumbCreeds$Row;"), (Jvm.Cond.fieldLink "PlumbCreeds$Settling" (58 : Nat) "PlumbCreeds$Valley" "kinOf" "LPlumbCreeds$Row;"), (Jvm.Cond.fieldLink "PlumbCreeds$Valley" (36 : Nat) "PlumbCreeds$Valley" "walls" "I"), (Jvm.Cond.fieldLink "PlumbCreeds" (241 : Nat) "PlumbCreeds$Valley" "walls" "I"), (Jvm.Cond.fieldLink "PlumbCreeds$Valley" (39 : Nat) "PlumbCreeds$Valley" "wallLean" "LPlumbCreeds$Row;"), (Jvm.Cond.fieldLink "PlumbCreeds" (172 : Nat) "PlumbCreeds$Valley" "wallLean" "LPlumbCreeds$Row;"), (Jvm.Cond.fieldLink "PlumbCreeds$Valley" (42 : Nat) "PlumbCreeds$Valley" "wallCreed" "LPlumbCreeds$Row;"), (Jvm.Cond.fieldLink "PlumbCreeds$Valley" (45 : Nat) "PlumbCreeds$Valley" "stairs" "I"), (Jvm.Cond.fieldLink "PlumbCreeds" (100 : Nat) "PlumbCreeds$Valley" "stairs" "I")]
def am_c3 : List Cond := [(Jvm.Cond.fieldLink "PlumbCreeds$Valley" (48 : Nat) "PlumbCreeds$Valley" "stairFrom" "LPlumbCreeds$Row;"), (Jvm.Cond.fieldLink "PlumbCreeds" (103 : Nat) "PlumbCreeds$Valley" "stairFrom" "LPlumbCreeds$Row;"), (Jvm.Cond.fieldLink "PlumbCreeds$Valley" (51 : Nat) "PlumbCreeds$Valley" "stairTo" "LPlumbCreeds$Row;"), (Jvm.Cond.fieldLink "PlumbCreeds" (106 : Nat) "PlumbCreeds$Valley" "stairTo" "LPlumbCreeds$Row;"), (Jvm.Cond.fieldLink "PlumbCreeds$Valley" (54 : Nat) "PlumbCreeds$Valley" "stairLean" "LPlumbCreeds$Row;"), (Jvm.Cond.fieldLink "PlumbCreeds" (109 : Nat) "PlumbCreeds$Valley" "stairLean" "LPlumbCreeds$Row;"), (Jvm.Cond.fieldLink "PlumbCreeds$Valley" (57 : Nat) "PlumbCreeds$Valley" "year" "I"), (Jvm.Cond.fieldLink "PlumbCreeds" (157 : Nat) "PlumbCreeds$Valley" "year" "I"), (Jvm.Cond.fieldLink "PlumbCreeds$Valley" (60 : Nat) "PlumbCreeds$Valley" "sights" "I"), (Jvm.Cond.fieldLink "PlumbCreeds" (194 : Nat) "PlumbCreeds$Valley" "sights" "I"), (Jvm.Cond.fieldLink "PlumbCreeds$Valley" (64 : Nat) "PlumbCreeds$Valley" "possible" "I"), (Jvm.Cond.fieldLink "PlumbCreeds" (197 : Nat) "PlumbCreeds$Valley" "possible" "I"), (Jvm.Cond.laysFinal "PlumbCreeds$Valley" "PlumbCreeds$Valley" "downOf" "LPlumbCreeds$Row;"), (Jvm.Cond.soleField "PlumbCreeds$Valley" "downOf"), (Jvm.Cond.lays "PlumbCreeds$Valley" "PlumbCreeds$Valley" "bearing" "I"), (Jvm.Cond.soleField "PlumbCreeds$Valley" "bearing"), (Jvm.Cond.lays "PlumbCreeds$Valley" "PlumbCreeds$Valley" "people" "I"), (Jvm.Cond.soleField "PlumbCreeds$Valley" "people"), (Jvm.Cond.laysFinal "PlumbCreeds$Valley" "PlumbCreeds$Valley" "creedOf" "LPlumbCreeds$Row;"), (Jvm.Cond.soleField "PlumbCreeds$Valley" "creedOf"), (Jvm.Cond.laysFinal "PlumbCreeds$Valley" "PlumbCreeds$Valley" "doubtOf" "LPlumbCreeds$Row;"), (Jvm.Cond.soleField "PlumbCreeds$Valley" "doubtOf"), (Jvm.Cond.laysFinal "PlumbCreeds$Valley" "PlumbCreeds$Valley" "kinOf" "LPlumbCreeds$Row;"), (Jvm.Cond.soleField "PlumbCreeds$Valley" "kinOf"), (Jvm.Cond.lays "PlumbCreeds$Valley" "PlumbCreeds$Valley" "walls" "I"), (Jvm.Cond.soleField "PlumbCreeds$Valley" "walls"), (Jvm.Cond.laysFinal "PlumbCreeds$Valley" "PlumbCreeds$Valley" "wallLean" "LPlumbCreeds$Row;"), (Jvm.Cond.soleField "PlumbCreeds$Valley" "wallLean"), (Jvm.Cond.laysFinal "PlumbCreeds$Valley" "PlumbCreeds$Valley" "wallCreed" "LPlumbCreeds$Row;"), (Jvm.Cond.soleField "PlumbCreeds$Valley" "wallCreed"), (Jvm.Cond.lays "PlumbCreeds$Valley" "PlumbCreeds$Valley" "stairs" "I"), (Jvm.Cond.soleField "PlumbCreeds$Valley" "stairs")]
def am_c4 : List Cond := [(Jvm.Cond.laysFinal "PlumbCreeds$Valley" "PlumbCreeds$Valley" "stairFrom" "LPlumbCreeds$Row;"), (Jvm.Cond.soleField "PlumbCreeds$Valley" "stairFrom"), (Jvm.Cond.laysFinal "PlumbCreeds$Valley" "PlumbCreeds$Valley" "stairTo" "LPlumbCreeds$Row;"), (Jvm.Cond.soleField "PlumbCreeds$Valley" "stairTo"), (Jvm.Cond.laysFinal "PlumbCreeds$Valley" "PlumbCreeds$Valley" "stairLean" "LPlumbCreeds$Row;"), (Jvm.Cond.soleField "PlumbCreeds$Valley" "stairLean"), (Jvm.Cond.lays "PlumbCreeds$Valley" "PlumbCreeds$Valley" "year" "I"), (Jvm.Cond.soleField "PlumbCreeds$Valley" "year"), (Jvm.Cond.lays "PlumbCreeds$Valley" "PlumbCreeds$Valley" "sights" "I"), (Jvm.Cond.soleField "PlumbCreeds$Valley" "sights"), (Jvm.Cond.lays "PlumbCreeds$Valley" "PlumbCreeds$Valley" "possible" "I"), (Jvm.Cond.soleField "PlumbCreeds$Valley" "possible"), (Jvm.Cond.superclass "PlumbCreeds$Valley" "java/lang/Object"), (Jvm.Cond.classLink "PlumbCreeds" (16 : Nat) "PlumbCreeds$Pad"), (Jvm.Cond.instantiable "PlumbCreeds$Pad" (2 : Nat)), (Jvm.Cond.methodLinkNest "PlumbCreeds" (18 : Nat) ({ cls := "PlumbCreeds$Pad", name := "<init>", desc := "()V" } : Jvm.MethodName) "PlumbCreeds"), (Jvm.Cond.instanceMethod ({ cls := "PlumbCreeds$Pad", name := "<init>", desc := "()V" } : Jvm.MethodName)), (Jvm.Cond.code ({ cls := "PlumbCreeds$Pad", name := "<init>", desc := "()V" } : Jvm.MethodName) prog_2_method_1_code (1 : Nat) (Option.none : Option Jvm.ClassFile.FieldType)), (Jvm.Cond.methodLink "PlumbCreeds$Pad" (3 : Nat) ({ cls := "java/lang/Object", name := "<init>", desc := "()V" } : Jvm.MethodName)), (Jvm.Cond.classLink "PlumbCreeds$Pad" (9 : Nat) "PlumbCreeds$Row"), (Jvm.Cond.methodLink "PlumbCreeds$Pad" (11 : Nat) ({ cls := "PlumbCreeds$Row", name := "<init>", desc := "(I)V" } : Jvm.MethodName)), (Jvm.Cond.fieldLink "PlumbCreeds$Pad" (14 : Nat) "PlumbCreeds$Pad" "signs" "LPlumbCreeds$Row;"), (Jvm.Cond.fieldLink "PlumbCreeds$Pad" (20 : Nat) "PlumbCreeds$Pad" "count" "I"), (Jvm.Cond.fieldLink "PlumbCreeds$Telling" (50 : Nat) "PlumbCreeds$Pad" "count" "I"), (Jvm.Cond.fieldLink "PlumbCreeds" (115 : Nat) "PlumbCreeds$Pad" "count" "I"), (Jvm.Cond.laysFinal "PlumbCreeds$Pad" "PlumbCreeds$Pad" "signs" "LPlumbCreeds$Row;"), (Jvm.Cond.soleField "PlumbCreeds$Pad" "signs"), (Jvm.Cond.lays "PlumbCreeds$Pad" "PlumbCreeds$Pad" "count" "I"), (Jvm.Cond.soleField "PlumbCreeds$Pad" "count"), (Jvm.Cond.superclass "PlumbCreeds$Pad" "java/lang/Object"), (Jvm.Cond.classLink "PlumbCreeds" (23 : Nat) "PlumbCreeds$Telling"), (Jvm.Cond.instantiable "PlumbCreeds$Telling" (7 : Nat))]
def am_c5 : List Cond := [(Jvm.Cond.methodLinkNest "PlumbCreeds" (25 : Nat) ({ cls := "PlumbCreeds$Telling", name := "<init>", desc := "()V" } : Jvm.MethodName) "PlumbCreeds"), (Jvm.Cond.instanceMethod ({ cls := "PlumbCreeds$Telling", name := "<init>", desc := "()V" } : Jvm.MethodName)), (Jvm.Cond.code ({ cls := "PlumbCreeds$Telling", name := "<init>", desc := "()V" } : Jvm.MethodName) prog_5_method_1_code (1 : Nat) (Option.none : Option Jvm.ClassFile.FieldType)), (Jvm.Cond.methodLink "PlumbCreeds$Telling" (3 : Nat) ({ cls := "java/lang/Object", name := "<init>", desc := "()V" } : Jvm.MethodName)), (Jvm.Cond.classLink "PlumbCreeds$Telling" (9 : Nat) "PlumbCreeds$Valley"), (Jvm.Cond.methodLink "PlumbCreeds$Telling" (11 : Nat) ({ cls := "PlumbCreeds$Valley", name := "<init>", desc := "()V" } : Jvm.MethodName)), (Jvm.Cond.fieldLink "PlumbCreeds$Telling" (12 : Nat) "PlumbCreeds$Telling" "outcome" "LPlumbCreeds$Valley;"), (Jvm.Cond.fieldLink "PlumbCreeds" (131 : Nat) "PlumbCreeds$Telling" "outcome" "LPlumbCreeds$Valley;"), (Jvm.Cond.fieldLink "PlumbCreeds$Telling" (18 : Nat) "PlumbCreeds$Telling" "acts" "I"), (Jvm.Cond.fieldLink "PlumbCreeds" (138 : Nat) "PlumbCreeds$Telling" "acts" "I"), (Jvm.Cond.fieldLink "PlumbCreeds$Telling" (22 : Nat) "PlumbCreeds$Telling" "badAct" "I"), (Jvm.Cond.fieldLink "PlumbCreeds" (125 : Nat) "PlumbCreeds$Telling" "badAct" "I"), (Jvm.Cond.fieldLink "PlumbCreeds$Telling" (25 : Nat) "PlumbCreeds$Telling" "reason" "I"), (Jvm.Cond.fieldLink "PlumbCreeds" (128 : Nat) "PlumbCreeds$Telling" "reason" "I"), (Jvm.Cond.fieldLink "PlumbCreeds$Telling" (28 : Nat) "PlumbCreeds$Telling" "firstFall" "I"), (Jvm.Cond.fieldLink "PlumbCreeds" (148 : Nat) "PlumbCreeds$Telling" "firstFall" "I"), (Jvm.Cond.fieldLink "PlumbCreeds$Telling" (31 : Nat) "PlumbCreeds$Telling" "firstFaller" "I"), (Jvm.Cond.fieldLink "PlumbCreeds" (151 : Nat) "PlumbCreeds$Telling" "firstFaller" "I"), (Jvm.Cond.fieldLink "PlumbCreeds$Telling" (34 : Nat) "PlumbCreeds$Telling" "falls" "I"), (Jvm.Cond.fieldLink "PlumbCreeds" (154 : Nat) "PlumbCreeds$Telling" "falls" "I"), (Jvm.Cond.laysFinal "PlumbCreeds$Telling" "PlumbCreeds$Telling" "outcome" "LPlumbCreeds$Valley;"), (Jvm.Cond.soleField "PlumbCreeds$Telling" "outcome"), (Jvm.Cond.lays "PlumbCreeds$Telling" "PlumbCreeds$Telling" "acts" "I"), (Jvm.Cond.soleField "PlumbCreeds$Telling" "acts"), (Jvm.Cond.lays "PlumbCreeds$Telling" "PlumbCreeds$Telling" "badAct" "I"), (Jvm.Cond.soleField "PlumbCreeds$Telling" "badAct"), (Jvm.Cond.lays "PlumbCreeds$Telling" "PlumbCreeds$Telling" "reason" "I"), (Jvm.Cond.soleField "PlumbCreeds$Telling" "reason"), (Jvm.Cond.lays "PlumbCreeds$Telling" "PlumbCreeds$Telling" "firstFall" "I"), (Jvm.Cond.soleField "PlumbCreeds$Telling" "firstFall"), (Jvm.Cond.lays "PlumbCreeds$Telling" "PlumbCreeds$Telling" "firstFaller" "I"), (Jvm.Cond.soleField "PlumbCreeds$Telling" "firstFaller")]
def am_c6 : List Cond := [(Jvm.Cond.lays "PlumbCreeds$Telling" "PlumbCreeds$Telling" "falls" "I"), (Jvm.Cond.soleField "PlumbCreeds$Telling" "falls"), (Jvm.Cond.superclass "PlumbCreeds$Telling" "java/lang/Object"), (Jvm.Cond.classLink "PlumbCreeds" (30 : Nat) "PlumbCreeds$Settling"), (Jvm.Cond.instantiable "PlumbCreeds$Settling" (5 : Nat)), (Jvm.Cond.methodLinkNest "PlumbCreeds" (32 : Nat) ({ cls := "PlumbCreeds$Settling", name := "<init>", desc := "()V" } : Jvm.MethodName) "PlumbCreeds"), (Jvm.Cond.instanceMethod ({ cls := "PlumbCreeds$Settling", name := "<init>", desc := "()V" } : Jvm.MethodName)), (Jvm.Cond.code ({ cls := "PlumbCreeds$Settling", name := "<init>", desc := "()V" } : Jvm.MethodName) prog_4_method_1_code (1 : Nat) (Option.none : Option Jvm.ClassFile.FieldType)), (Jvm.Cond.methodLink "PlumbCreeds$Settling" (3 : Nat) ({ cls := "java/lang/Object", name := "<init>", desc := "()V" } : Jvm.MethodName)), (Jvm.Cond.classLink "PlumbCreeds$Settling" (9 : Nat) "PlumbCreeds$Row"), (Jvm.Cond.methodLink "PlumbCreeds$Settling" (11 : Nat) ({ cls := "PlumbCreeds$Row", name := "<init>", desc := "(I)V" } : Jvm.MethodName)), (Jvm.Cond.fieldLink "PlumbCreeds$Settling" (14 : Nat) "PlumbCreeds$Settling" "held" "LPlumbCreeds$Row;"), (Jvm.Cond.fieldLink "PlumbCreeds" (213 : Nat) "PlumbCreeds$Settling" "held" "LPlumbCreeds$Row;"), (Jvm.Cond.fieldLink "PlumbCreeds$Settling" (20 : Nat) "PlumbCreeds$Settling" "taken" "LPlumbCreeds$Row;"), (Jvm.Cond.fieldLink "PlumbCreeds$Settling" (23 : Nat) "PlumbCreeds$Settling" "history" "LPlumbCreeds$Row;"), (Jvm.Cond.fieldLink "PlumbCreeds$Settling" (26 : Nat) "PlumbCreeds$Settling" "againYear" "I"), (Jvm.Cond.fieldLink "PlumbCreeds" (219 : Nat) "PlumbCreeds$Settling" "againYear" "I"), (Jvm.Cond.fieldLink "PlumbCreeds$Settling" (30 : Nat) "PlumbCreeds$Settling" "earlierYear" "I"), (Jvm.Cond.fieldLink "PlumbCreeds" (222 : Nat) "PlumbCreeds$Settling" "earlierYear" "I"), (Jvm.Cond.laysFinal "PlumbCreeds$Settling" "PlumbCreeds$Settling" "held" "LPlumbCreeds$Row;"), (Jvm.Cond.soleField "PlumbCreeds$Settling" "held"), (Jvm.Cond.laysFinal "PlumbCreeds$Settling" "PlumbCreeds$Settling" "taken" "LPlumbCreeds$Row;"), (Jvm.Cond.soleField "PlumbCreeds$Settling" "taken"), (Jvm.Cond.laysFinal "PlumbCreeds$Settling" "PlumbCreeds$Settling" "history" "LPlumbCreeds$Row;"), (Jvm.Cond.soleField "PlumbCreeds$Settling" "history"), (Jvm.Cond.lays "PlumbCreeds$Settling" "PlumbCreeds$Settling" "againYear" "I"), (Jvm.Cond.soleField "PlumbCreeds$Settling" "againYear"), (Jvm.Cond.lays "PlumbCreeds$Settling" "PlumbCreeds$Settling" "earlierYear" "I"), (Jvm.Cond.soleField "PlumbCreeds$Settling" "earlierYear"), (Jvm.Cond.superclass "PlumbCreeds$Settling" "java/lang/Object"), (Jvm.Cond.fieldLink "PlumbCreeds" (10 : Nat) "PlumbCreeds" "now" "LPlumbCreeds$Valley;"), (Jvm.Cond.fieldLink "PlumbCreeds" (19 : Nat) "PlumbCreeds" "pad" "LPlumbCreeds$Pad;")]
def am_c7 : List Cond := [(Jvm.Cond.fieldLink "PlumbCreeds" (26 : Nat) "PlumbCreeds" "telling" "LPlumbCreeds$Telling;"), (Jvm.Cond.fieldLink "PlumbCreeds" (33 : Nat) "PlumbCreeds" "settling" "LPlumbCreeds$Settling;"), (Jvm.Cond.fieldLink "PlumbCreeds" (37 : Nat) "PlumbCreeds" "firstImage" "LPlumbCreeds$Valley;"), (Jvm.Cond.fieldLink "PlumbCreeds" (40 : Nat) "PlumbCreeds" "secondImage" "LPlumbCreeds$Valley;"), (Jvm.Cond.fieldLink "PlumbCreeds" (43 : Nat) "PlumbCreeds" "keptImages" "I"), (Jvm.Cond.laysFinal "PlumbCreeds" "PlumbCreeds" "now" "LPlumbCreeds$Valley;"), (Jvm.Cond.soleField "PlumbCreeds" "now"), (Jvm.Cond.laysFinal "PlumbCreeds" "PlumbCreeds" "pad" "LPlumbCreeds$Pad;"), (Jvm.Cond.soleField "PlumbCreeds" "pad"), (Jvm.Cond.laysFinal "PlumbCreeds" "PlumbCreeds" "telling" "LPlumbCreeds$Telling;"), (Jvm.Cond.soleField "PlumbCreeds" "telling"), (Jvm.Cond.laysFinal "PlumbCreeds" "PlumbCreeds" "settling" "LPlumbCreeds$Settling;"), (Jvm.Cond.soleField "PlumbCreeds" "settling"), (Jvm.Cond.laysFinal "PlumbCreeds" "PlumbCreeds" "firstImage" "LPlumbCreeds$Valley;"), (Jvm.Cond.soleField "PlumbCreeds" "firstImage"), (Jvm.Cond.laysFinal "PlumbCreeds" "PlumbCreeds" "secondImage" "LPlumbCreeds$Valley;"), (Jvm.Cond.soleField "PlumbCreeds" "secondImage"), (Jvm.Cond.lays "PlumbCreeds" "PlumbCreeds" "keptImages" "I"), (Jvm.Cond.soleField "PlumbCreeds" "keptImages"), (Jvm.Cond.superclass "PlumbCreeds" "java/lang/Object"), (Jvm.Cond.methodLink "PlumbCreedsLaw" (13 : Nat) ({ cls := "PlumbCreeds", name := "creed", desc := "(II)I" } : Jvm.MethodName)), (Jvm.Cond.instanceMethod ({ cls := "PlumbCreeds", name := "creed", desc := "(II)I" } : Jvm.MethodName)), (Jvm.Cond.selects "PlumbCreeds" ({ cls := "PlumbCreeds", name := "creed", desc := "(II)I" } : Jvm.MethodName) ({ cls := "PlumbCreeds", name := "creed", desc := "(II)I" } : Jvm.MethodName)), (Jvm.Cond.code ({ cls := "PlumbCreeds", name := "creed", desc := "(II)I" } : Jvm.MethodName) prog_1_method_2_code (4 : Nat) (Option.some Jvm.ClassFile.FieldType.int)), (Jvm.Cond.methodLink "PlumbCreeds" (47 : Nat) ({ cls := "PlumbCreeds", name := "isIn", desc := "(III)Z" } : Jvm.MethodName)), (Jvm.Cond.static ({ cls := "PlumbCreeds", name := "isIn", desc := "(III)Z" } : Jvm.MethodName)), (Jvm.Cond.code ({ cls := "PlumbCreeds", name := "isIn", desc := "(III)Z" } : Jvm.MethodName) prog_1_method_33_code (3 : Nat) (Option.some Jvm.ClassFile.FieldType.boolean)), (Jvm.Cond.methodLink "PlumbCreeds" (51 : Nat) ({ cls := "PlumbCreeds", name := "isLean", desc := "(I)Z" } : Jvm.MethodName)), (Jvm.Cond.static ({ cls := "PlumbCreeds", name := "isLean", desc := "(I)Z" } : Jvm.MethodName)), (Jvm.Cond.code ({ cls := "PlumbCreeds", name := "isLean", desc := "(I)Z" } : Jvm.MethodName) prog_1_method_34_code (1 : Nat) (Option.some Jvm.ClassFile.FieldType.boolean)), (Jvm.Cond.methodLink "PlumbCreeds" (59 : Nat) ({ cls := "PlumbCreeds$Row", name := "get", desc := "(I)I" } : Jvm.MethodName)), (Jvm.Cond.instanceMethod ({ cls := "PlumbCreeds$Row", name := "get", desc := "(I)I" } : Jvm.MethodName))]
def am_c8 : List Cond := [(Jvm.Cond.selects "PlumbCreeds$Row" ({ cls := "PlumbCreeds$Row", name := "get", desc := "(I)I" } : Jvm.MethodName) ({ cls := "PlumbCreeds$Row", name := "get", desc := "(I)I" } : Jvm.MethodName)), (Jvm.Cond.code ({ cls := "PlumbCreeds$Row", name := "get", desc := "(I)I" } : Jvm.MethodName) prog_3_method_2_code (2 : Nat) (Option.some Jvm.ClassFile.FieldType.int)), (Jvm.Cond.methodLink "PlumbCreeds" (65 : Nat) ({ cls := "PlumbCreeds$Row", name := "set", desc := "(II)V" } : Jvm.MethodName)), (Jvm.Cond.methodLink "PlumbCreedsLaw" (18 : Nat) ({ cls := "PlumbCreeds", name := "bear", desc := "(I)I" } : Jvm.MethodName)), (Jvm.Cond.instanceMethod ({ cls := "PlumbCreeds", name := "bear", desc := "(I)I" } : Jvm.MethodName)), (Jvm.Cond.selects "PlumbCreeds" ({ cls := "PlumbCreeds", name := "bear", desc := "(I)I" } : Jvm.MethodName) ({ cls := "PlumbCreeds", name := "bear", desc := "(I)I" } : Jvm.MethodName)), (Jvm.Cond.code ({ cls := "PlumbCreeds", name := "bear", desc := "(I)I" } : Jvm.MethodName) prog_1_method_3_code (3 : Nat) (Option.some Jvm.ClassFile.FieldType.int)), (Jvm.Cond.methodLink "PlumbCreedsLaw" (23 : Nat) ({ cls := "PlumbCreeds", name := "one", desc := "(III)I" } : Jvm.MethodName)), (Jvm.Cond.instanceMethod ({ cls := "PlumbCreeds", name := "one", desc := "(III)I" } : Jvm.MethodName)), (Jvm.Cond.selects "PlumbCreeds" ({ cls := "PlumbCreeds", name := "one", desc := "(III)I" } : Jvm.MethodName) ({ cls := "PlumbCreeds", name := "one", desc := "(III)I" } : Jvm.MethodName)), (Jvm.Cond.code ({ cls := "PlumbCreeds", name := "one", desc := "(III)I" } : Jvm.MethodName) prog_1_method_4_code (4 : Nat) (Option.some Jvm.ClassFile.FieldType.int)), (Jvm.Cond.methodLink "PlumbCreeds" (81 : Nat) ({ cls := "java/lang/Integer", name := "bitCount", desc := "(I)I" } : Jvm.MethodName)), (Jvm.Cond.static ({ cls := "java/lang/Integer", name := "bitCount", desc := "(I)I" } : Jvm.MethodName)), (Jvm.Cond.code ({ cls := "java/lang/Integer", name := "bitCount", desc := "(I)I" } : Jvm.MethodName) prog_9_method_49_code (1 : Nat) (Option.some Jvm.ClassFile.FieldType.int)), (Jvm.Cond.constant "java/lang/Integer" (265 : Nat) (1431655765 : Int32)), (Jvm.Cond.constant "java/lang/Integer" (266 : Nat) (858993459 : Int32)), (Jvm.Cond.constant "java/lang/Integer" (267 : Nat) (252645135 : Int32)), (Jvm.Cond.methodLink "PlumbCreedsLaw" (28 : Nat) ({ cls := "PlumbCreeds", name := "leave", desc := "(I)I" } : Jvm.MethodName)), (Jvm.Cond.instanceMethod ({ cls := "PlumbCreeds", name := "leave", desc := "(I)I" } : Jvm.MethodName)), (Jvm.Cond.selects "PlumbCreeds" ({ cls := "PlumbCreeds", name := "leave", desc := "(I)I" } : Jvm.MethodName) ({ cls := "PlumbCreeds", name := "leave", desc := "(I)I" } : Jvm.MethodName)), (Jvm.Cond.code ({ cls := "PlumbCreeds", name := "leave", desc := "(I)I" } : Jvm.MethodName) prog_1_method_5_code (2 : Nat) (Option.some Jvm.ClassFile.FieldType.int)), (Jvm.Cond.methodLink "PlumbCreeds" (86 : Nat) ({ cls := "PlumbCreeds$Valley", name := "isThere", desc := "(I)Z" } : Jvm.MethodName)), (Jvm.Cond.instanceMethod ({ cls := "PlumbCreeds$Valley", name := "isThere", desc := "(I)Z" } : Jvm.MethodName)), (Jvm.Cond.selects "PlumbCreeds$Valley" ({ cls := "PlumbCreeds$Valley", name := "isThere", desc := "(I)Z" } : Jvm.MethodName) ({ cls := "PlumbCreeds$Valley", name := "isThere", desc := "(I)Z" } : Jvm.MethodName)), (Jvm.Cond.code ({ cls := "PlumbCreeds$Valley", name := "isThere", desc := "(I)Z" } : Jvm.MethodName) prog_6_method_3_code (2 : Nat) (Option.some Jvm.ClassFile.FieldType.boolean)), (Jvm.Cond.methodLinkNest "PlumbCreeds$Valley" (75 : Nat) ({ cls := "PlumbCreeds", name := "has", desc := "(II)Z" } : Jvm.MethodName) "PlumbCreeds"), (Jvm.Cond.static ({ cls := "PlumbCreeds", name := "has", desc := "(II)Z" } : Jvm.MethodName)), (Jvm.Cond.code ({ cls := "PlumbCreeds", name := "has", desc := "(II)Z" } : Jvm.MethodName) prog_1_method_36_code (2 : Nat) (Option.some Jvm.ClassFile.FieldType.boolean)), (Jvm.Cond.methodLink "PlumbCreedsLaw" (32 : Nat) ({ cls := "PlumbCreeds", name := "kin", desc := "(IIZ)I" } : Jvm.MethodName)), (Jvm.Cond.instanceMethod ({ cls := "PlumbCreeds", name := "kin", desc := "(IIZ)I" } : Jvm.MethodName)), (Jvm.Cond.selects "PlumbCreeds" ({ cls := "PlumbCreeds", name := "kin", desc := "(IIZ)I" } : Jvm.MethodName) ({ cls := "PlumbCreeds", name := "kin", desc := "(IIZ)I" } : Jvm.MethodName)), (Jvm.Cond.code ({ cls := "PlumbCreeds", name := "kin", desc := "(IIZ)I" } : Jvm.MethodName) prog_1_method_6_code (4 : Nat) (Option.some Jvm.ClassFile.FieldType.int))]
def am_c9 : List Cond := [(Jvm.Cond.methodLink "PlumbCreeds" (89 : Nat) ({ cls := "PlumbCreeds$Valley", name := "setKin", desc := "(IIZ)V" } : Jvm.MethodName)), (Jvm.Cond.instanceMethod ({ cls := "PlumbCreeds$Valley", name := "setKin", desc := "(IIZ)V" } : Jvm.MethodName)), (Jvm.Cond.selects "PlumbCreeds$Valley" ({ cls := "PlumbCreeds$Valley", name := "setKin", desc := "(IIZ)V" } : Jvm.MethodName) ({ cls := "PlumbCreeds$Valley", name := "setKin", desc := "(IIZ)V" } : Jvm.MethodName)), (Jvm.Cond.code ({ cls := "PlumbCreeds$Valley", name := "setKin", desc := "(IIZ)V" } : Jvm.MethodName) prog_6_method_7_code (5 : Nat) (Option.none : Option Jvm.ClassFile.FieldType)), (Jvm.Cond.methodLink "PlumbCreeds$Valley" (79 : Nat) ({ cls := "PlumbCreeds$Row", name := "get", desc := "(I)I" } : Jvm.MethodName)), (Jvm.Cond.methodLink "PlumbCreeds" (93 : Nat) ({ cls := "PlumbCreeds$Valley", name := "kinTwos", desc := "()I" } : Jvm.MethodName)), (Jvm.Cond.instanceMethod ({ cls := "PlumbCreeds$Valley", name := "kinTwos", desc := "()I" } : Jvm.MethodName)), (Jvm.Cond.selects "PlumbCreeds$Valley" ({ cls := "PlumbCreeds$Valley", name := "kinTwos", desc := "()I" } : Jvm.MethodName) ({ cls := "PlumbCreeds$Valley", name := "kinTwos", desc := "()I" } : Jvm.MethodName)), (Jvm.Cond.code ({ cls := "PlumbCreeds$Valley", name := "kinTwos", desc := "()I" } : Jvm.MethodName) prog_6_method_8_code (3 : Nat) (Option.some Jvm.ClassFile.FieldType.int)), (Jvm.Cond.methodLink "PlumbCreeds$Valley" (83 : Nat) ({ cls := "java/lang/Integer", name := "bitCount", desc := "(I)I" } : Jvm.MethodName)), (Jvm.Cond.methodLink "PlumbCreedsLaw" (37 : Nat) ({ cls := "PlumbCreeds", name := "stair", desc := "(IIII)I" } : Jvm.MethodName)), (Jvm.Cond.instanceMethod ({ cls := "PlumbCreeds", name := "stair", desc := "(IIII)I" } : Jvm.MethodName)), (Jvm.Cond.selects "PlumbCreeds" ({ cls := "PlumbCreeds", name := "stair", desc := "(IIII)I" } : Jvm.MethodName) ({ cls := "PlumbCreeds", name := "stair", desc := "(IIII)I" } : Jvm.MethodName)), (Jvm.Cond.code ({ cls := "PlumbCreeds", name := "stair", desc := "(IIII)I" } : Jvm.MethodName) prog_1_method_7_code (5 : Nat) (Option.some Jvm.ClassFile.FieldType.int)), (Jvm.Cond.methodLink "PlumbCreeds" (97 : Nat) ({ cls := "PlumbCreeds", name := "isPlace", desc := "(I)Z" } : Jvm.MethodName)), (Jvm.Cond.static ({ cls := "PlumbCreeds", name := "isPlace", desc := "(I)Z" } : Jvm.MethodName)), (Jvm.Cond.code ({ cls := "PlumbCreeds", name := "isPlace", desc := "(I)Z" } : Jvm.MethodName) prog_1_method_35_code (1 : Nat) (Option.some Jvm.ClassFile.FieldType.boolean)), (Jvm.Cond.methodLink "PlumbCreedsLaw" (42 : Nat) ({ cls := "PlumbCreeds", name := "say", desc := "(I)I" } : Jvm.MethodName)), (Jvm.Cond.instanceMethod ({ cls := "PlumbCreeds", name := "say", desc := "(I)I" } : Jvm.MethodName)), (Jvm.Cond.selects "PlumbCreeds" ({ cls := "PlumbCreeds", name := "say", desc := "(I)I" } : Jvm.MethodName) ({ cls := "PlumbCreeds", name := "say", desc := "(I)I" } : Jvm.MethodName)), (Jvm.Cond.code ({ cls := "PlumbCreeds", name := "say", desc := "(I)I" } : Jvm.MethodName) prog_1_method_8_code (2 : Nat) (Option.some Jvm.ClassFile.FieldType.int)), (Jvm.Cond.methodLink "PlumbCreeds" (112 : Nat) ({ cls := "PlumbCreeds$Pad", name := "add", desc := "(I)Z" } : Jvm.MethodName)), (Jvm.Cond.instanceMethod ({ cls := "PlumbCreeds$Pad", name := "add", desc := "(I)Z" } : Jvm.MethodName)), (Jvm.Cond.selects "PlumbCreeds$Pad" ({ cls := "PlumbCreeds$Pad", name := "add", desc := "(I)Z" } : Jvm.MethodName) ({ cls := "PlumbCreeds$Pad", name := "add", desc := "(I)Z" } : Jvm.MethodName)), (Jvm.Cond.code ({ cls := "PlumbCreeds$Pad", name := "add", desc := "(I)Z" } : Jvm.MethodName) prog_2_method_2_code (2 : Nat) (Option.some Jvm.ClassFile.FieldType.boolean)), (Jvm.Cond.methodLink "PlumbCreeds$Pad" (24 : Nat) ({ cls := "PlumbCreeds$Row", name := "set", desc := "(II)V" } : Jvm.MethodName)), (Jvm.Cond.methodLink "PlumbCreedsLaw" (46 : Nat) ({ cls := "PlumbCreeds", name := "wipe", desc := "()I" } : Jvm.MethodName)), (Jvm.Cond.instanceMethod ({ cls := "PlumbCreeds", name := "wipe", desc := "()I" } : Jvm.MethodName)), (Jvm.Cond.selects "PlumbCreeds" ({ cls := "PlumbCreeds", name := "wipe", desc := "()I" } : Jvm.MethodName) ({ cls := "PlumbCreeds", name := "wipe", desc := "()I" } : Jvm.MethodName)), (Jvm.Cond.code ({ cls := "PlumbCreeds", name := "wipe", desc := "()I" } : Jvm.MethodName) prog_1_method_9_code (2 : Nat) (Option.some Jvm.ClassFile.FieldType.int)), (Jvm.Cond.methodLink "PlumbCreedsLaw" (51 : Nat) ({ cls := "PlumbCreeds", name := "fault", desc := "()I" } : Jvm.MethodName)), (Jvm.Cond.instanceMethod ({ cls := "PlumbCreeds", name := "fault", desc := "()I" } : Jvm.MethodName))]
def am_c10 : List Cond := [(Jvm.Cond.selects "PlumbCreeds" ({ cls := "PlumbCreeds", name := "fault", desc := "()I" } : Jvm.MethodName) ({ cls := "PlumbCreeds", name := "fault", desc := "()I" } : Jvm.MethodName)), (Jvm.Cond.code ({ cls := "PlumbCreeds", name := "fault", desc := "()I" } : Jvm.MethodName) prog_1_method_10_code (1 : Nat) (Option.some Jvm.ClassFile.FieldType.int)), (Jvm.Cond.methodLink "PlumbCreeds" (118 : Nat) ({ cls := "PlumbCreeds$Pad", name := "faultPlace", desc := "()I" } : Jvm.MethodName)), (Jvm.Cond.instanceMethod ({ cls := "PlumbCreeds$Pad", name := "faultPlace", desc := "()I" } : Jvm.MethodName)), (Jvm.Cond.selects "PlumbCreeds$Pad" ({ cls := "PlumbCreeds$Pad", name := "faultPlace", desc := "()I" } : Jvm.MethodName) ({ cls := "PlumbCreeds$Pad", name := "faultPlace", desc := "()I" } : Jvm.MethodName)), (Jvm.Cond.code ({ cls := "PlumbCreeds$Pad", name := "faultPlace", desc := "()I" } : Jvm.MethodName) prog_2_method_3_code (3 : Nat) (Option.some Jvm.ClassFile.FieldType.int)), (Jvm.Cond.methodLink "PlumbCreeds$Pad" (28 : Nat) ({ cls := "PlumbCreeds$Row", name := "get", desc := "(I)I" } : Jvm.MethodName)), (Jvm.Cond.methodLink "PlumbCreeds$Pad" (32 : Nat) ({ cls := "PlumbCreeds$Pad", name := "roomBehind", desc := "(II)I" } : Jvm.MethodName)), (Jvm.Cond.static ({ cls := "PlumbCreeds$Pad", name := "roomBehind", desc := "(II)I" } : Jvm.MethodName)), (Jvm.Cond.code ({ cls := "PlumbCreeds$Pad", name := "roomBehind", desc := "(II)I" } : Jvm.MethodName) prog_2_method_4_code (2 : Nat) (Option.some Jvm.ClassFile.FieldType.int)), (Jvm.Cond.methodLink "PlumbCreeds$Pad" (36 : Nat) ({ cls := "PlumbCreeds$Pad", name := "isOneSign", desc := "(I)Z" } : Jvm.MethodName)), (Jvm.Cond.static ({ cls := "PlumbCreeds$Pad", name := "isOneSign", desc := "(I)Z" } : Jvm.MethodName)), (Jvm.Cond.code ({ cls := "PlumbCreeds$Pad", name := "isOneSign", desc := "(I)Z" } : Jvm.MethodName) prog_2_method_5_code (1 : Nat) (Option.some Jvm.ClassFile.FieldType.boolean)), (Jvm.Cond.methodLinkNest "PlumbCreeds$Pad" (40 : Nat) ({ cls := "PlumbCreeds", name := "isIn", desc := "(III)Z" } : Jvm.MethodName) "PlumbCreeds"), (Jvm.Cond.methodLink "PlumbCreeds$Pad" (44 : Nat) ({ cls := "PlumbCreeds$Pad", name := "isCreedSign", desc := "(I)Z" } : Jvm.MethodName)), (Jvm.Cond.static ({ cls := "PlumbCreeds$Pad", name := "isCreedSign", desc := "(I)Z" } : Jvm.MethodName)), (Jvm.Cond.code ({ cls := "PlumbCreeds$Pad", name := "isCreedSign", desc := "(I)Z" } : Jvm.MethodName) prog_2_method_6_code (1 : Nat) (Option.some Jvm.ClassFile.FieldType.boolean)), (Jvm.Cond.methodLink "PlumbCreedsLaw" (55 : Nat) ({ cls := "PlumbCreeds", name := "judge", desc := "(I)I" } : Jvm.MethodName)), (Jvm.Cond.instanceMethod ({ cls := "PlumbCreeds", name := "judge", desc := "(I)I" } : Jvm.MethodName)), (Jvm.Cond.selects "PlumbCreeds" ({ cls := "PlumbCreeds", name := "judge", desc := "(I)I" } : Jvm.MethodName) ({ cls := "PlumbCreeds", name := "judge", desc := "(I)I" } : Jvm.MethodName)), (Jvm.Cond.code ({ cls := "PlumbCreeds", name := "judge", desc := "(I)I" } : Jvm.MethodName) prog_1_method_11_code (2 : Nat) (Option.some Jvm.ClassFile.FieldType.int)), (Jvm.Cond.methodLink "PlumbCreeds" (121 : Nat) ({ cls := "PlumbCreeds$Telling", name := "tellYears", desc := "(LPlumbCreeds$Pad;LPlumbCreeds$Valley;)Z" } : Jvm.MethodName)), (Jvm.Cond.instanceMethod ({ cls := "PlumbCreeds$Telling", name := "tellYears", desc := "(LPlumbCreeds$Pad;LPlumbCreeds$Valley;)Z" } : Jvm.MethodName)), (Jvm.Cond.selects "PlumbCreeds$Telling" ({ cls := "PlumbCreeds$Telling", name := "tellYears", desc := "(LPlumbCreeds$Pad;LPlumbCreeds$Valley;)Z" } : Jvm.MethodName) ({ cls := "PlumbCreeds$Telling", name := "tellYears", desc := "(LPlumbCreeds$Pad;LPlumbCreeds$Valley;)Z" } : Jvm.MethodName)), (Jvm.Cond.code ({ cls := "PlumbCreeds$Telling", name := "tellYears", desc := "(LPlumbCreeds$Pad;LPlumbCreeds$Valley;)Z" } : Jvm.MethodName) prog_5_method_3_code (5 : Nat) (Option.some Jvm.ClassFile.FieldType.boolean)), (Jvm.Cond.methodLink "PlumbCreeds$Telling" (41 : Nat) ({ cls := "PlumbCreeds$Telling", name := "start", desc := "(LPlumbCreeds$Valley;)V" } : Jvm.MethodName)), (Jvm.Cond.privateMethod ({ cls := "PlumbCreeds$Telling", name := "start", desc := "(LPlumbCreeds$Valley;)V" } : Jvm.MethodName)), (Jvm.Cond.instanceMethod ({ cls := "PlumbCreeds$Telling", name := "start", desc := "(LPlumbCreeds$Valley;)V" } : Jvm.MethodName)), (Jvm.Cond.code ({ cls := "PlumbCreeds$Telling", name := "start", desc := "(LPlumbCreeds$Valley;)V" } : Jvm.MethodName) prog_5_method_2_code (2 : Nat) (Option.none : Option Jvm.ClassFile.FieldType)), (Jvm.Cond.methodLink "PlumbCreeds$Telling" (37 : Nat) ({ cls := "PlumbCreeds$Valley", name := "copyFrom", desc := "(LPlumbCreeds$Valley;)V" } : Jvm.MethodName)), (Jvm.Cond.instanceMethod ({ cls := "PlumbCreeds$Valley", name := "copyFrom", desc := "(LPlumbCreeds$Valley;)V" } : Jvm.MethodName)), (Jvm.Cond.selects "PlumbCreeds$Valley" ({ cls := "PlumbCreeds$Valley", name := "copyFrom", desc := "(LPlumbCreeds$Valley;)V" } : Jvm.MethodName) ({ cls := "PlumbCreeds$Valley", name := "copyFrom", desc := "(LPlumbCreeds$Valley;)V" } : Jvm.MethodName))]
def am_c11 : List Cond := [(Jvm.Cond.code ({ cls := "PlumbCreeds$Valley", name := "copyFrom", desc := "(LPlumbCreeds$Valley;)V" } : Jvm.MethodName) prog_6_method_2_code (2 : Nat) (Option.none : Option Jvm.ClassFile.FieldType)), (Jvm.Cond.methodLink "PlumbCreeds$Valley" (71 : Nat) ({ cls := "PlumbCreeds$Row", name := "copyFrom", desc := "(LPlumbCreeds$Row;)V" } : Jvm.MethodName)), (Jvm.Cond.instanceMethod ({ cls := "PlumbCreeds$Row", name := "copyFrom", desc := "(LPlumbCreeds$Row;)V" } : Jvm.MethodName)), (Jvm.Cond.selects "PlumbCreeds$Row" ({ cls := "PlumbCreeds$Row", name := "copyFrom", desc := "(LPlumbCreeds$Row;)V" } : Jvm.MethodName) ({ cls := "PlumbCreeds$Row", name := "copyFrom", desc := "(LPlumbCreeds$Row;)V" } : Jvm.MethodName)), (Jvm.Cond.code ({ cls := "PlumbCreeds$Row", name := "copyFrom", desc := "(LPlumbCreeds$Row;)V" } : Jvm.MethodName) prog_3_method_4_code (3 : Nat) (Option.none : Option Jvm.ClassFile.FieldType)), (Jvm.Cond.methodLink "PlumbCreeds$Row" (19 : Nat) ({ cls := "PlumbCreeds$Row", name := "get", desc := "(I)I" } : Jvm.MethodName)), (Jvm.Cond.methodLink "PlumbCreeds$Telling" (44 : Nat) ({ cls := "PlumbCreeds$Pad", name := "faultPlace", desc := "()I" } : Jvm.MethodName)), (Jvm.Cond.methodLink "PlumbCreeds$Telling" (53 : Nat) ({ cls := "PlumbCreeds$Pad", name := "endsAct", desc := "(I)Z" } : Jvm.MethodName)), (Jvm.Cond.instanceMethod ({ cls := "PlumbCreeds$Pad", name := "endsAct", desc := "(I)Z" } : Jvm.MethodName)), (Jvm.Cond.selects "PlumbCreeds$Pad" ({ cls := "PlumbCreeds$Pad", name := "endsAct", desc := "(I)Z" } : Jvm.MethodName) ({ cls := "PlumbCreeds$Pad", name := "endsAct", desc := "(I)Z" } : Jvm.MethodName)), (Jvm.Cond.code ({ cls := "PlumbCreeds$Pad", name := "endsAct", desc := "(I)Z" } : Jvm.MethodName) prog_2_method_7_code (2 : Nat) (Option.some Jvm.ClassFile.FieldType.boolean)), (Jvm.Cond.methodLink "PlumbCreeds$Telling" (57 : Nat) ({ cls := "PlumbCreeds$Pad", name := "kindAt", desc := "(I)I" } : Jvm.MethodName)), (Jvm.Cond.instanceMethod ({ cls := "PlumbCreeds$Pad", name := "kindAt", desc := "(I)I" } : Jvm.MethodName)), (Jvm.Cond.selects "PlumbCreeds$Pad" ({ cls := "PlumbCreeds$Pad", name := "kindAt", desc := "(I)I" } : Jvm.MethodName) ({ cls := "PlumbCreeds$Pad", name := "kindAt", desc := "(I)I" } : Jvm.MethodName)), (Jvm.Cond.code ({ cls := "PlumbCreeds$Pad", name := "kindAt", desc := "(I)I" } : Jvm.MethodName) prog_2_method_8_code (3 : Nat) (Option.some Jvm.ClassFile.FieldType.int)), (Jvm.Cond.methodLink "PlumbCreeds$Telling" (61 : Nat) ({ cls := "PlumbCreeds$Pad", name := "oneAt", desc := "(I)I" } : Jvm.MethodName)), (Jvm.Cond.instanceMethod ({ cls := "PlumbCreeds$Pad", name := "oneAt", desc := "(I)I" } : Jvm.MethodName)), (Jvm.Cond.selects "PlumbCreeds$Pad" ({ cls := "PlumbCreeds$Pad", name := "oneAt", desc := "(I)I" } : Jvm.MethodName) ({ cls := "PlumbCreeds$Pad", name := "oneAt", desc := "(I)I" } : Jvm.MethodName)), (Jvm.Cond.code ({ cls := "PlumbCreeds$Pad", name := "oneAt", desc := "(I)I" } : Jvm.MethodName) prog_2_method_9_code (2 : Nat) (Option.some Jvm.ClassFile.FieldType.int)), (Jvm.Cond.methodLink "PlumbCreeds$Pad" (47 : Nat) ({ cls := "PlumbCreeds$Pad", name := "kindAt", desc := "(I)I" } : Jvm.MethodName)), (Jvm.Cond.methodLink "PlumbCreeds$Telling" (64 : Nat) ({ cls := "PlumbCreeds$Pad", name := "targetAt", desc := "(I)I" } : Jvm.MethodName)), (Jvm.Cond.instanceMethod ({ cls := "PlumbCreeds$Pad", name := "targetAt", desc := "(I)I" } : Jvm.MethodName)), (Jvm.Cond.selects "PlumbCreeds$Pad" ({ cls := "PlumbCreeds$Pad", name := "targetAt", desc := "(I)I" } : Jvm.MethodName) ({ cls := "PlumbCreeds$Pad", name := "targetAt", desc := "(I)I" } : Jvm.MethodName)), (Jvm.Cond.code ({ cls := "PlumbCreeds$Pad", name := "targetAt", desc := "(I)I" } : Jvm.MethodName) prog_2_method_10_code (2 : Nat) (Option.some Jvm.ClassFile.FieldType.int)), (Jvm.Cond.methodLink "PlumbCreeds$Telling" (67 : Nat) ({ cls := "PlumbCreeds$Telling", name := "tellAct", desc := "(III)I" } : Jvm.MethodName)), (Jvm.Cond.privateMethod ({ cls := "PlumbCreeds$Telling", name := "tellAct", desc := "(III)I" } : Jvm.MethodName)), (Jvm.Cond.instanceMethod ({ cls := "PlumbCreeds$Telling", name := "tellAct", desc := "(III)I" } : Jvm.MethodName)), (Jvm.Cond.code ({ cls := "PlumbCreeds$Telling", name := "tellAct", desc := "(III)I" } : Jvm.MethodName) prog_5_method_6_code (5 : Nat) (Option.some Jvm.ClassFile.FieldType.int)), (Jvm.Cond.methodLink "PlumbCreeds$Telling" (75 : Nat) ({ cls := "PlumbCreeds$Valley", name := "reasonAgainst", desc := "(III)I" } : Jvm.MethodName)), (Jvm.Cond.instanceMethod ({ cls := "PlumbCreeds$Valley", name := "reasonAgainst", desc := "(III)I" } : Jvm.MethodName)), (Jvm.Cond.selects "PlumbCreeds$Valley" ({ cls := "PlumbCreeds$Valley", name := "reasonAgainst", desc := "(III)I" } : Jvm.MethodName) ({ cls := "PlumbCreeds$Valley", name := "reasonAgainst", desc := "(III)I" } : Jvm.MethodName)), (Jvm.Cond.code ({ cls := "PlumbCreeds$Valley", name := "reasonAgainst", desc := "(III)I" } : Jvm.MethodName) prog_6_method_16_code (4 : Nat) (Option.some Jvm.ClassFile.FieldType.int))]
def am_c12 : List Cond := [(Jvm.Cond.methodLink "PlumbCreeds$Valley" (103 : Nat) ({ cls := "PlumbCreeds$Valley", name := "isThere", desc := "(I)Z" } : Jvm.MethodName)), (Jvm.Cond.methodLink "PlumbCreeds$Valley" (93 : Nat) ({ cls := "PlumbCreeds$Valley", name := "stands", desc := "(I)Z" } : Jvm.MethodName)), (Jvm.Cond.instanceMethod ({ cls := "PlumbCreeds$Valley", name := "stands", desc := "(I)Z" } : Jvm.MethodName)), (Jvm.Cond.selects "PlumbCreeds$Valley" ({ cls := "PlumbCreeds$Valley", name := "stands", desc := "(I)Z" } : Jvm.MethodName) ({ cls := "PlumbCreeds$Valley", name := "stands", desc := "(I)Z" } : Jvm.MethodName)), (Jvm.Cond.code ({ cls := "PlumbCreeds$Valley", name := "stands", desc := "(I)Z" } : Jvm.MethodName) prog_6_method_5_code (2 : Nat) (Option.some Jvm.ClassFile.FieldType.boolean)), (Jvm.Cond.methodLink "PlumbCreeds$Telling" (78 : Nat) ({ cls := "PlumbCreeds$Valley", name := "enact", desc := "(III)Z" } : Jvm.MethodName)), (Jvm.Cond.instanceMethod ({ cls := "PlumbCreeds$Valley", name := "enact", desc := "(III)Z" } : Jvm.MethodName)), (Jvm.Cond.selects "PlumbCreeds$Valley" ({ cls := "PlumbCreeds$Valley", name := "enact", desc := "(III)Z" } : Jvm.MethodName) ({ cls := "PlumbCreeds$Valley", name := "enact", desc := "(III)Z" } : Jvm.MethodName)), (Jvm.Cond.code ({ cls := "PlumbCreeds$Valley", name := "enact", desc := "(III)Z" } : Jvm.MethodName) prog_6_method_17_code (4 : Nat) (Option.some Jvm.ClassFile.FieldType.boolean)), (Jvm.Cond.methodLink "PlumbCreeds$Valley" (106 : Nat) ({ cls := "PlumbCreeds$Valley", name := "build", desc := "(II)V" } : Jvm.MethodName)), (Jvm.Cond.privateMethod ({ cls := "PlumbCreeds$Valley", name := "build", desc := "(II)V" } : Jvm.MethodName)), (Jvm.Cond.instanceMethod ({ cls := "PlumbCreeds$Valley", name := "build", desc := "(II)V" } : Jvm.MethodName)), (Jvm.Cond.code ({ cls := "PlumbCreeds$Valley", name := "build", desc := "(II)V" } : Jvm.MethodName) prog_6_method_18_code (3 : Nat) (Option.none : Option Jvm.ClassFile.FieldType)), (Jvm.Cond.methodLink "PlumbCreeds$Valley" (115 : Nat) ({ cls := "PlumbCreeds$Valley", name := "downFor", desc := "(I)I" } : Jvm.MethodName)), (Jvm.Cond.instanceMethod ({ cls := "PlumbCreeds$Valley", name := "downFor", desc := "(I)I" } : Jvm.MethodName)), (Jvm.Cond.selects "PlumbCreeds$Valley" ({ cls := "PlumbCreeds$Valley", name := "downFor", desc := "(I)I" } : Jvm.MethodName) ({ cls := "PlumbCreeds$Valley", name := "downFor", desc := "(I)I" } : Jvm.MethodName)), (Jvm.Cond.code ({ cls := "PlumbCreeds$Valley", name := "downFor", desc := "(I)I" } : Jvm.MethodName) prog_6_method_9_code (2 : Nat) (Option.some Jvm.ClassFile.FieldType.int)), (Jvm.Cond.methodLink "PlumbCreeds$Valley" (109 : Nat) ({ cls := "PlumbCreeds$Valley", name := "tryWall", desc := "(II)Z" } : Jvm.MethodName)), (Jvm.Cond.privateMethod ({ cls := "PlumbCreeds$Valley", name := "tryWall", desc := "(II)Z" } : Jvm.MethodName)), (Jvm.Cond.instanceMethod ({ cls := "PlumbCreeds$Valley", name := "tryWall", desc := "(II)Z" } : Jvm.MethodName)), (Jvm.Cond.code ({ cls := "PlumbCreeds$Valley", name := "tryWall", desc := "(II)Z" } : Jvm.MethodName) prog_6_method_19_code (4 : Nat) (Option.some Jvm.ClassFile.FieldType.boolean)), (Jvm.Cond.methodLink "PlumbCreeds$Valley" (97 : Nat) ({ cls := "PlumbCreeds$Valley", name := "carries", desc := "(II)Z" } : Jvm.MethodName)), (Jvm.Cond.instanceMethod ({ cls := "PlumbCreeds$Valley", name := "carries", desc := "(II)Z" } : Jvm.MethodName)), (Jvm.Cond.selects "PlumbCreeds$Valley" ({ cls := "PlumbCreeds$Valley", name := "carries", desc := "(II)Z" } : Jvm.MethodName) ({ cls := "PlumbCreeds$Valley", name := "carries", desc := "(II)Z" } : Jvm.MethodName)), (Jvm.Cond.code ({ cls := "PlumbCreeds$Valley", name := "carries", desc := "(II)Z" } : Jvm.MethodName) prog_6_method_10_code (3 : Nat) (Option.some Jvm.ClassFile.FieldType.boolean)), (Jvm.Cond.methodLink "PlumbCreeds$Valley" (88 : Nat) ({ cls := "java/lang/Math", name := "abs", desc := "(I)I" } : Jvm.MethodName)), (Jvm.Cond.static ({ cls := "java/lang/Math", name := "abs", desc := "(I)I" } : Jvm.MethodName)), (Jvm.Cond.code ({ cls := "java/lang/Math", name := "abs", desc := "(I)I" } : Jvm.MethodName) prog_10_method_59_code (1 : Nat) (Option.some Jvm.ClassFile.FieldType.int)), (Jvm.Cond.methodLink "PlumbCreeds$Valley" (118 : Nat) ({ cls := "java/lang/Math", name := "max", desc := "(II)I" } : Jvm.MethodName)), (Jvm.Cond.methodLink "PlumbCreeds$Valley" (112 : Nat) ({ cls := "PlumbCreeds$Valley", name := "quake", desc := "()V" } : Jvm.MethodName)), (Jvm.Cond.privateMethod ({ cls := "PlumbCreeds$Valley", name := "quake", desc := "()V" } : Jvm.MethodName)), (Jvm.Cond.instanceMethod ({ cls := "PlumbCreeds$Valley", name := "quake", desc := "()V" } : Jvm.MethodName))]
def am_c13 : List Cond := [(Jvm.Cond.code ({ cls := "PlumbCreeds$Valley", name := "quake", desc := "()V" } : Jvm.MethodName) prog_6_method_20_code (2 : Nat) (Option.none : Option Jvm.ClassFile.FieldType)), (Jvm.Cond.methodLink "PlumbCreedsLaw" (59 : Nat) ({ cls := "PlumbCreeds", name := "done", desc := "()I" } : Jvm.MethodName)), (Jvm.Cond.instanceMethod ({ cls := "PlumbCreeds", name := "done", desc := "()I" } : Jvm.MethodName)), (Jvm.Cond.selects "PlumbCreeds" ({ cls := "PlumbCreeds", name := "done", desc := "()I" } : Jvm.MethodName) ({ cls := "PlumbCreeds", name := "done", desc := "()I" } : Jvm.MethodName)), (Jvm.Cond.code ({ cls := "PlumbCreeds", name := "done", desc := "()I" } : Jvm.MethodName) prog_1_method_12_code (1 : Nat) (Option.some Jvm.ClassFile.FieldType.int)), (Jvm.Cond.methodLink "PlumbCreeds" (134 : Nat) ({ cls := "PlumbCreeds$Valley", name := "copyFrom", desc := "(LPlumbCreeds$Valley;)V" } : Jvm.MethodName)), (Jvm.Cond.methodLink "PlumbCreedsLaw" (63 : Nat) ({ cls := "PlumbCreeds", name := "behind", desc := "(II)I" } : Jvm.MethodName)), (Jvm.Cond.instanceMethod ({ cls := "PlumbCreeds", name := "behind", desc := "(II)I" } : Jvm.MethodName)), (Jvm.Cond.selects "PlumbCreeds" ({ cls := "PlumbCreeds", name := "behind", desc := "(II)I" } : Jvm.MethodName) ({ cls := "PlumbCreeds", name := "behind", desc := "(II)I" } : Jvm.MethodName)), (Jvm.Cond.code ({ cls := "PlumbCreeds", name := "behind", desc := "(II)I" } : Jvm.MethodName) prog_1_method_13_code (3 : Nat) (Option.some Jvm.ClassFile.FieldType.int)), (Jvm.Cond.methodLink "PlumbCreedsLaw" (67 : Nat) ({ cls := "PlumbCreeds", name := "wall", desc := "(II)I" } : Jvm.MethodName)), (Jvm.Cond.instanceMethod ({ cls := "PlumbCreeds", name := "wall", desc := "(II)I" } : Jvm.MethodName)), (Jvm.Cond.selects "PlumbCreeds" ({ cls := "PlumbCreeds", name := "wall", desc := "(II)I" } : Jvm.MethodName) ({ cls := "PlumbCreeds", name := "wall", desc := "(II)I" } : Jvm.MethodName)), (Jvm.Cond.code ({ cls := "PlumbCreeds", name := "wall", desc := "(II)I" } : Jvm.MethodName) prog_1_method_14_code (3 : Nat) (Option.some Jvm.ClassFile.FieldType.int)), (Jvm.Cond.methodLink "PlumbCreeds" (141 : Nat) ({ cls := "PlumbCreeds$Valley", name := "stands", desc := "(I)Z" } : Jvm.MethodName)), (Jvm.Cond.methodLink "PlumbCreeds" (144 : Nat) ({ cls := "PlumbCreeds$Valley", name := "wallTold", desc := "(II)I" } : Jvm.MethodName)), (Jvm.Cond.instanceMethod ({ cls := "PlumbCreeds$Valley", name := "wallTold", desc := "(II)I" } : Jvm.MethodName)), (Jvm.Cond.selects "PlumbCreeds$Valley" ({ cls := "PlumbCreeds$Valley", name := "wallTold", desc := "(II)I" } : Jvm.MethodName) ({ cls := "PlumbCreeds$Valley", name := "wallTold", desc := "(II)I" } : Jvm.MethodName)), (Jvm.Cond.code ({ cls := "PlumbCreeds$Valley", name := "wallTold", desc := "(II)I" } : Jvm.MethodName) prog_6_method_6_code (3 : Nat) (Option.some Jvm.ClassFile.FieldType.int)), (Jvm.Cond.methodLink "PlumbCreedsLaw" (71 : Nat) ({ cls := "PlumbCreeds", name := "fell", desc := "(I)I" } : Jvm.MethodName)), (Jvm.Cond.instanceMethod ({ cls := "PlumbCreeds", name := "fell", desc := "(I)I" } : Jvm.MethodName)), (Jvm.Cond.selects "PlumbCreeds" ({ cls := "PlumbCreeds", name := "fell", desc := "(I)I" } : Jvm.MethodName) ({ cls := "PlumbCreeds", name := "fell", desc := "(I)I" } : Jvm.MethodName)), (Jvm.Cond.code ({ cls := "PlumbCreeds", name := "fell", desc := "(I)I" } : Jvm.MethodName) prog_1_method_15_code (2 : Nat) (Option.some Jvm.ClassFile.FieldType.int)), (Jvm.Cond.methodLink "PlumbCreedsLaw" (75 : Nat) ({ cls := "PlumbCreeds", name := "bears", desc := "(I)I" } : Jvm.MethodName)), (Jvm.Cond.instanceMethod ({ cls := "PlumbCreeds", name := "bears", desc := "(I)I" } : Jvm.MethodName)), (Jvm.Cond.selects "PlumbCreeds" ({ cls := "PlumbCreeds", name := "bears", desc := "(I)I" } : Jvm.MethodName) ({ cls := "PlumbCreeds", name := "bears", desc := "(I)I" } : Jvm.MethodName)), (Jvm.Cond.code ({ cls := "PlumbCreeds", name := "bears", desc := "(I)I" } : Jvm.MethodName) prog_1_method_16_code (2 : Nat) (Option.some Jvm.ClassFile.FieldType.int)), (Jvm.Cond.methodLink "PlumbCreeds" (160 : Nat) ({ cls := "PlumbCreeds$Valley", name := "wallsFor", desc := "(I)I" } : Jvm.MethodName)), (Jvm.Cond.instanceMethod ({ cls := "PlumbCreeds$Valley", name := "wallsFor", desc := "(I)I" } : Jvm.MethodName)), (Jvm.Cond.selects "PlumbCreeds$Valley" ({ cls := "PlumbCreeds$Valley", name := "wallsFor", desc := "(I)I" } : Jvm.MethodName) ({ cls := "PlumbCreeds$Valley", name := "wallsFor", desc := "(I)I" } : Jvm.MethodName)), (Jvm.Cond.code ({ cls := "PlumbCreeds$Valley", name := "wallsFor", desc := "(I)I" } : Jvm.MethodName) prog_6_method_11_code (4 : Nat) (Option.some Jvm.ClassFile.FieldType.int)), (Jvm.Cond.methodLink "PlumbCreedsLaw" (79 : Nat) ({ cls := "PlumbCreeds", name := "all", desc := "(II)I" } : Jvm.MethodName))]
def am_c14 : List Cond := [(Jvm.Cond.instanceMethod ({ cls := "PlumbCreeds", name := "all", desc := "(II)I" } : Jvm.MethodName)), (Jvm.Cond.selects "PlumbCreeds" ({ cls := "PlumbCreeds", name := "all", desc := "(II)I" } : Jvm.MethodName) ({ cls := "PlumbCreeds", name := "all", desc := "(II)I" } : Jvm.MethodName)), (Jvm.Cond.code ({ cls := "PlumbCreeds", name := "all", desc := "(II)I" } : Jvm.MethodName) prog_1_method_17_code (4 : Nat) (Option.some Jvm.ClassFile.FieldType.int)), (Jvm.Cond.methodLink "PlumbCreeds" (163 : Nat) ({ cls := "PlumbCreeds$Valley", name := "areThere", desc := "(I)Z" } : Jvm.MethodName)), (Jvm.Cond.instanceMethod ({ cls := "PlumbCreeds$Valley", name := "areThere", desc := "(I)Z" } : Jvm.MethodName)), (Jvm.Cond.selects "PlumbCreeds$Valley" ({ cls := "PlumbCreeds$Valley", name := "areThere", desc := "(I)Z" } : Jvm.MethodName) ({ cls := "PlumbCreeds$Valley", name := "areThere", desc := "(I)Z" } : Jvm.MethodName)), (Jvm.Cond.code ({ cls := "PlumbCreeds$Valley", name := "areThere", desc := "(I)Z" } : Jvm.MethodName) prog_6_method_4_code (2 : Nat) (Option.some Jvm.ClassFile.FieldType.boolean)), (Jvm.Cond.methodLink "PlumbCreeds" (166 : Nat) ({ cls := "PlumbCreeds$Valley", name := "leansFor", desc := "(I)I" } : Jvm.MethodName)), (Jvm.Cond.instanceMethod ({ cls := "PlumbCreeds$Valley", name := "leansFor", desc := "(I)I" } : Jvm.MethodName)), (Jvm.Cond.selects "PlumbCreeds$Valley" ({ cls := "PlumbCreeds$Valley", name := "leansFor", desc := "(I)I" } : Jvm.MethodName) ({ cls := "PlumbCreeds$Valley", name := "leansFor", desc := "(I)I" } : Jvm.MethodName)), (Jvm.Cond.code ({ cls := "PlumbCreeds$Valley", name := "leansFor", desc := "(I)I" } : Jvm.MethodName) prog_6_method_13_code (4 : Nat) (Option.some Jvm.ClassFile.FieldType.int)), (Jvm.Cond.methodLink "PlumbCreeds$Valley" (100 : Nat) ({ cls := "PlumbCreeds$Valley", name := "carriesAll", desc := "(II)Z" } : Jvm.MethodName)), (Jvm.Cond.instanceMethod ({ cls := "PlumbCreeds$Valley", name := "carriesAll", desc := "(II)Z" } : Jvm.MethodName)), (Jvm.Cond.selects "PlumbCreeds$Valley" ({ cls := "PlumbCreeds$Valley", name := "carriesAll", desc := "(II)Z" } : Jvm.MethodName) ({ cls := "PlumbCreeds$Valley", name := "carriesAll", desc := "(II)Z" } : Jvm.MethodName)), (Jvm.Cond.code ({ cls := "PlumbCreeds$Valley", name := "carriesAll", desc := "(II)Z" } : Jvm.MethodName) prog_6_method_12_code (4 : Nat) (Option.some Jvm.ClassFile.FieldType.boolean)), (Jvm.Cond.methodLink "PlumbCreeds" (169 : Nat) ({ cls := "PlumbCreeds", name := "leastOf", desc := "(I)I" } : Jvm.MethodName)), (Jvm.Cond.static ({ cls := "PlumbCreeds", name := "leastOf", desc := "(I)I" } : Jvm.MethodName)), (Jvm.Cond.code ({ cls := "PlumbCreeds", name := "leastOf", desc := "(I)I" } : Jvm.MethodName) prog_1_method_37_code (2 : Nat) (Option.some Jvm.ClassFile.FieldType.int)), (Jvm.Cond.methodLink "PlumbCreeds" (190 : Nat) ({ cls := "PlumbCreeds", name := "has", desc := "(II)Z" } : Jvm.MethodName)), (Jvm.Cond.methodLink "PlumbCreedsLaw" (83 : Nat) ({ cls := "PlumbCreeds", name := "wedges", desc := "(III)I" } : Jvm.MethodName)), (Jvm.Cond.instanceMethod ({ cls := "PlumbCreeds", name := "wedges", desc := "(III)I" } : Jvm.MethodName)), (Jvm.Cond.selects "PlumbCreeds" ({ cls := "PlumbCreeds", name := "wedges", desc := "(III)I" } : Jvm.MethodName) ({ cls := "PlumbCreeds", name := "wedges", desc := "(III)I" } : Jvm.MethodName)), (Jvm.Cond.code ({ cls := "PlumbCreeds", name := "wedges", desc := "(III)I" } : Jvm.MethodName) prog_1_method_18_code (7 : Nat) (Option.some Jvm.ClassFile.FieldType.int)), (Jvm.Cond.methodLink "PlumbCreeds" (175 : Nat) ({ cls := "PlumbCreeds", name := "nearestOf", desc := "(II)I" } : Jvm.MethodName)), (Jvm.Cond.static ({ cls := "PlumbCreeds", name := "nearestOf", desc := "(II)I" } : Jvm.MethodName)), (Jvm.Cond.code ({ cls := "PlumbCreeds", name := "nearestOf", desc := "(II)I" } : Jvm.MethodName) prog_1_method_38_code (4 : Nat) (Option.some Jvm.ClassFile.FieldType.int)), (Jvm.Cond.methodLink "PlumbCreeds" (178 : Nat) ({ cls := "java/lang/Math", name := "abs", desc := "(I)I" } : Jvm.MethodName)), (Jvm.Cond.methodLink "PlumbCreedsLaw" (87 : Nat) ({ cls := "PlumbCreeds", name := "meet", desc := "(IIII)I" } : Jvm.MethodName)), (Jvm.Cond.instanceMethod ({ cls := "PlumbCreeds", name := "meet", desc := "(IIII)I" } : Jvm.MethodName)), (Jvm.Cond.selects "PlumbCreeds" ({ cls := "PlumbCreeds", name := "meet", desc := "(IIII)I" } : Jvm.MethodName) ({ cls := "PlumbCreeds", name := "meet", desc := "(IIII)I" } : Jvm.MethodName)), (Jvm.Cond.code ({ cls := "PlumbCreeds", name := "meet", desc := "(IIII)I" } : Jvm.MethodName) prog_1_method_19_code (9 : Nat) (Option.some Jvm.ClassFile.FieldType.int)), (Jvm.Cond.methodLink "PlumbCreeds" (183 : Nat) ({ cls := "PlumbCreeds", name := "stepBehind", desc := "(IIII)I" } : Jvm.MethodName))]
def am_c15 : List Cond := [(Jvm.Cond.privateMethod ({ cls := "PlumbCreeds", name := "stepBehind", desc := "(IIII)I" } : Jvm.MethodName)), (Jvm.Cond.instanceMethod ({ cls := "PlumbCreeds", name := "stepBehind", desc := "(IIII)I" } : Jvm.MethodName)), (Jvm.Cond.code ({ cls := "PlumbCreeds", name := "stepBehind", desc := "(IIII)I" } : Jvm.MethodName) prog_1_method_41_code (5 : Nat) (Option.some Jvm.ClassFile.FieldType.int)), (Jvm.Cond.methodLink "PlumbCreeds" (265 : Nat) ({ cls := "PlumbCreeds$Valley", name := "downFor", desc := "(I)I" } : Jvm.MethodName)), (Jvm.Cond.methodLink "PlumbCreedsLaw" (91 : Nat) ({ cls := "PlumbCreeds", name := "ways", desc := "(IIII)I" } : Jvm.MethodName)), (Jvm.Cond.instanceMethod ({ cls := "PlumbCreeds", name := "ways", desc := "(IIII)I" } : Jvm.MethodName)), (Jvm.Cond.selects "PlumbCreeds" ({ cls := "PlumbCreeds", name := "ways", desc := "(IIII)I" } : Jvm.MethodName) ({ cls := "PlumbCreeds", name := "ways", desc := "(IIII)I" } : Jvm.MethodName)), (Jvm.Cond.code ({ cls := "PlumbCreeds", name := "ways", desc := "(IIII)I" } : Jvm.MethodName) prog_1_method_20_code (8 : Nat) (Option.some Jvm.ClassFile.FieldType.int)), (Jvm.Cond.methodLink "PlumbCreeds" (187 : Nat) ({ cls := "PlumbCreeds$Valley", name := "stepsFrom", desc := "(II)I" } : Jvm.MethodName)), (Jvm.Cond.instanceMethod ({ cls := "PlumbCreeds$Valley", name := "stepsFrom", desc := "(II)I" } : Jvm.MethodName)), (Jvm.Cond.selects "PlumbCreeds$Valley" ({ cls := "PlumbCreeds$Valley", name := "stepsFrom", desc := "(II)I" } : Jvm.MethodName) ({ cls := "PlumbCreeds$Valley", name := "stepsFrom", desc := "(II)I" } : Jvm.MethodName)), (Jvm.Cond.code ({ cls := "PlumbCreeds$Valley", name := "stepsFrom", desc := "(II)I" } : Jvm.MethodName) prog_6_method_14_code (7 : Nat) (Option.some Jvm.ClassFile.FieldType.int)), (Jvm.Cond.methodLink "PlumbCreedsLaw" (95 : Nat) ({ cls := "PlumbCreeds", name := "reach", desc := "(II)I" } : Jvm.MethodName)), (Jvm.Cond.instanceMethod ({ cls := "PlumbCreeds", name := "reach", desc := "(II)I" } : Jvm.MethodName)), (Jvm.Cond.selects "PlumbCreeds" ({ cls := "PlumbCreeds", name := "reach", desc := "(II)I" } : Jvm.MethodName) ({ cls := "PlumbCreeds", name := "reach", desc := "(II)I" } : Jvm.MethodName)), (Jvm.Cond.code ({ cls := "PlumbCreeds", name := "reach", desc := "(II)I" } : Jvm.MethodName) prog_1_method_21_code (5 : Nat) (Option.some Jvm.ClassFile.FieldType.int)), (Jvm.Cond.methodLink "PlumbCreedsLaw" (99 : Nat) ({ cls := "PlumbCreeds", name := "seen", desc := "(II)I" } : Jvm.MethodName)), (Jvm.Cond.instanceMethod ({ cls := "PlumbCreeds", name := "seen", desc := "(II)I" } : Jvm.MethodName)), (Jvm.Cond.selects "PlumbCreeds" ({ cls := "PlumbCreeds", name := "seen", desc := "(II)I" } : Jvm.MethodName) ({ cls := "PlumbCreeds", name := "seen", desc := "(II)I" } : Jvm.MethodName)), (Jvm.Cond.code ({ cls := "PlumbCreeds", name := "seen", desc := "(II)I" } : Jvm.MethodName) prog_1_method_22_code (3 : Nat) (Option.some Jvm.ClassFile.FieldType.int)), (Jvm.Cond.methodLink "PlumbCreeds" (200 : Nat) ({ cls := "PlumbCreeds", name := "downsThat", desc := "(II)I" } : Jvm.MethodName)), (Jvm.Cond.static ({ cls := "PlumbCreeds", name := "downsThat", desc := "(II)I" } : Jvm.MethodName)), (Jvm.Cond.code ({ cls := "PlumbCreeds", name := "downsThat", desc := "(II)I" } : Jvm.MethodName) prog_1_method_39_code (4 : Nat) (Option.some Jvm.ClassFile.FieldType.int)), (Jvm.Cond.constant "PlumbCreeds" (203 : Nat) (524287 : Int32)), (Jvm.Cond.methodLink "PlumbCreedsLaw" (103 : Nat) ({ cls := "PlumbCreeds", name := "forget", desc := "()I" } : Jvm.MethodName)), (Jvm.Cond.instanceMethod ({ cls := "PlumbCreeds", name := "forget", desc := "()I" } : Jvm.MethodName)), (Jvm.Cond.selects "PlumbCreeds" ({ cls := "PlumbCreeds", name := "forget", desc := "()I" } : Jvm.MethodName) ({ cls := "PlumbCreeds", name := "forget", desc := "()I" } : Jvm.MethodName)), (Jvm.Cond.code ({ cls := "PlumbCreeds", name := "forget", desc := "()I" } : Jvm.MethodName) prog_1_method_23_code (2 : Nat) (Option.some Jvm.ClassFile.FieldType.int)), (Jvm.Cond.methodLink "PlumbCreedsLaw" (107 : Nat) ({ cls := "PlumbCreeds", name := "downs", desc := "(I)I" } : Jvm.MethodName)), (Jvm.Cond.instanceMethod ({ cls := "PlumbCreeds", name := "downs", desc := "(I)I" } : Jvm.MethodName)), (Jvm.Cond.selects "PlumbCreeds" ({ cls := "PlumbCreeds", name := "downs", desc := "(I)I" } : Jvm.MethodName) ({ cls := "PlumbCreeds", name := "downs", desc := "(I)I" } : Jvm.MethodName)), (Jvm.Cond.code ({ cls := "PlumbCreeds", name := "downs", desc := "(I)I" } : Jvm.MethodName) prog_1_method_24_code (4 : Nat) (Option.some Jvm.ClassFile.FieldType.int))]
def am_c16 : List Cond := [(Jvm.Cond.methodLink "PlumbCreedsLaw" (111 : Nat) ({ cls := "PlumbCreeds", name := "next", desc := "(I)I" } : Jvm.MethodName)), (Jvm.Cond.instanceMethod ({ cls := "PlumbCreeds", name := "next", desc := "(I)I" } : Jvm.MethodName)), (Jvm.Cond.selects "PlumbCreeds" ({ cls := "PlumbCreeds", name := "next", desc := "(I)I" } : Jvm.MethodName) ({ cls := "PlumbCreeds", name := "next", desc := "(I)I" } : Jvm.MethodName)), (Jvm.Cond.code ({ cls := "PlumbCreeds", name := "next", desc := "(I)I" } : Jvm.MethodName) prog_1_method_25_code (4 : Nat) (Option.some Jvm.ClassFile.FieldType.int)), (Jvm.Cond.methodLink "PlumbCreeds" (204 : Nat) ({ cls := "PlumbCreeds", name := "mostLeftBy", desc := "(I)I" } : Jvm.MethodName)), (Jvm.Cond.privateMethod ({ cls := "PlumbCreeds", name := "mostLeftBy", desc := "(I)I" } : Jvm.MethodName)), (Jvm.Cond.instanceMethod ({ cls := "PlumbCreeds", name := "mostLeftBy", desc := "(I)I" } : Jvm.MethodName)), (Jvm.Cond.code ({ cls := "PlumbCreeds", name := "mostLeftBy", desc := "(I)I" } : Jvm.MethodName) prog_1_method_40_code (4 : Nat) (Option.some Jvm.ClassFile.FieldType.int)), (Jvm.Cond.methodLink "PlumbCreeds" (263 : Nat) ({ cls := "java/lang/Math", name := "max", desc := "(II)I" } : Jvm.MethodName)), (Jvm.Cond.methodLink "PlumbCreedsLaw" (115 : Nat) ({ cls := "PlumbCreeds", name := "settle", desc := "(II)I" } : Jvm.MethodName)), (Jvm.Cond.instanceMethod ({ cls := "PlumbCreeds", name := "settle", desc := "(II)I" } : Jvm.MethodName)), (Jvm.Cond.selects "PlumbCreeds" ({ cls := "PlumbCreeds", name := "settle", desc := "(II)I" } : Jvm.MethodName) ({ cls := "PlumbCreeds", name := "settle", desc := "(II)I" } : Jvm.MethodName)), (Jvm.Cond.code ({ cls := "PlumbCreeds", name := "settle", desc := "(II)I" } : Jvm.MethodName) prog_1_method_26_code (4 : Nat) (Option.some Jvm.ClassFile.FieldType.int)), (Jvm.Cond.methodLink "PlumbCreeds" (207 : Nat) ({ cls := "PlumbCreeds$Settling", name := "start", desc := "(LPlumbCreeds$Valley;)V" } : Jvm.MethodName)), (Jvm.Cond.instanceMethod ({ cls := "PlumbCreeds$Settling", name := "start", desc := "(LPlumbCreeds$Valley;)V" } : Jvm.MethodName)), (Jvm.Cond.selects "PlumbCreeds$Settling" ({ cls := "PlumbCreeds$Settling", name := "start", desc := "(LPlumbCreeds$Valley;)V" } : Jvm.MethodName) ({ cls := "PlumbCreeds$Settling", name := "start", desc := "(LPlumbCreeds$Valley;)V" } : Jvm.MethodName)), (Jvm.Cond.code ({ cls := "PlumbCreeds$Settling", name := "start", desc := "(LPlumbCreeds$Valley;)V" } : Jvm.MethodName) prog_4_method_2_code (2 : Nat) (Option.none : Option Jvm.ClassFile.FieldType)), (Jvm.Cond.methodLink "PlumbCreeds$Settling" (38 : Nat) ({ cls := "PlumbCreeds$Row", name := "copyFrom", desc := "(LPlumbCreeds$Row;)V" } : Jvm.MethodName)), (Jvm.Cond.methodLink "PlumbCreeds" (210 : Nat) ({ cls := "PlumbCreeds$Settling", name := "passYear", desc := "(LPlumbCreeds$Valley;)V" } : Jvm.MethodName)), (Jvm.Cond.instanceMethod ({ cls := "PlumbCreeds$Settling", name := "passYear", desc := "(LPlumbCreeds$Valley;)V" } : Jvm.MethodName)), (Jvm.Cond.selects "PlumbCreeds$Settling" ({ cls := "PlumbCreeds$Settling", name := "passYear", desc := "(LPlumbCreeds$Valley;)V" } : Jvm.MethodName) ({ cls := "PlumbCreeds$Settling", name := "passYear", desc := "(LPlumbCreeds$Valley;)V" } : Jvm.MethodName)), (Jvm.Cond.code ({ cls := "PlumbCreeds$Settling", name := "passYear", desc := "(LPlumbCreeds$Valley;)V" } : Jvm.MethodName) prog_4_method_3_code (3 : Nat) (Option.none : Option Jvm.ClassFile.FieldType)), (Jvm.Cond.methodLink "PlumbCreeds$Settling" (42 : Nat) ({ cls := "PlumbCreeds$Settling", name := "choiceOf", desc := "(ILPlumbCreeds$Valley;)I" } : Jvm.MethodName)), (Jvm.Cond.privateMethod ({ cls := "PlumbCreeds$Settling", name := "choiceOf", desc := "(ILPlumbCreeds$Valley;)I" } : Jvm.MethodName)), (Jvm.Cond.instanceMethod ({ cls := "PlumbCreeds$Settling", name := "choiceOf", desc := "(ILPlumbCreeds$Valley;)I" } : Jvm.MethodName)), (Jvm.Cond.code ({ cls := "PlumbCreeds$Settling", name := "choiceOf", desc := "(ILPlumbCreeds$Valley;)I" } : Jvm.MethodName) prog_4_method_4_code (8 : Nat) (Option.some Jvm.ClassFile.FieldType.int)), (Jvm.Cond.methodLink "PlumbCreeds$Settling" (50 : Nat) ({ cls := "PlumbCreeds$Row", name := "get", desc := "(I)I" } : Jvm.MethodName)), (Jvm.Cond.methodLink "PlumbCreeds$Settling" (54 : Nat) ({ cls := "PlumbCreeds$Valley", name := "isThere", desc := "(I)Z" } : Jvm.MethodName)), (Jvm.Cond.methodLink "PlumbCreeds$Settling" (64 : Nat) ({ cls := "PlumbCreeds$Settling", name := "holdersOf", desc := "(II)I" } : Jvm.MethodName)), (Jvm.Cond.privateMethod ({ cls := "PlumbCreeds$Settling", name := "holdersOf", desc := "(II)I" } : Jvm.MethodName)), (Jvm.Cond.instanceMethod ({ cls := "PlumbCreeds$Settling", name := "holdersOf", desc := "(II)I" } : Jvm.MethodName)), (Jvm.Cond.code ({ cls := "PlumbCreeds$Settling", name := "holdersOf", desc := "(II)I" } : Jvm.MethodName) prog_4_method_5_code (5 : Nat) (Option.some Jvm.ClassFile.FieldType.int))]
def am_c17 : List Cond := [(Jvm.Cond.methodLinkNest "PlumbCreeds$Settling" (68 : Nat) ({ cls := "PlumbCreeds", name := "has", desc := "(II)Z" } : Jvm.MethodName) "PlumbCreeds"), (Jvm.Cond.methodLink "PlumbCreeds$Settling" (46 : Nat) ({ cls := "PlumbCreeds$Row", name := "set", desc := "(II)V" } : Jvm.MethodName)), (Jvm.Cond.methodLink "PlumbCreedsLaw" (119 : Nat) ({ cls := "PlumbCreeds", name := "again", desc := "(I)I" } : Jvm.MethodName)), (Jvm.Cond.instanceMethod ({ cls := "PlumbCreeds", name := "again", desc := "(I)I" } : Jvm.MethodName)), (Jvm.Cond.selects "PlumbCreeds" ({ cls := "PlumbCreeds", name := "again", desc := "(I)I" } : Jvm.MethodName) ({ cls := "PlumbCreeds", name := "again", desc := "(I)I" } : Jvm.MethodName)), (Jvm.Cond.code ({ cls := "PlumbCreeds", name := "again", desc := "(I)I" } : Jvm.MethodName) prog_1_method_27_code (2 : Nat) (Option.some Jvm.ClassFile.FieldType.int)), (Jvm.Cond.methodLink "PlumbCreeds" (216 : Nat) ({ cls := "PlumbCreeds$Settling", name := "findAgain", desc := "(LPlumbCreeds$Valley;)V" } : Jvm.MethodName)), (Jvm.Cond.instanceMethod ({ cls := "PlumbCreeds$Settling", name := "findAgain", desc := "(LPlumbCreeds$Valley;)V" } : Jvm.MethodName)), (Jvm.Cond.selects "PlumbCreeds$Settling" ({ cls := "PlumbCreeds$Settling", name := "findAgain", desc := "(LPlumbCreeds$Valley;)V" } : Jvm.MethodName) ({ cls := "PlumbCreeds$Settling", name := "findAgain", desc := "(LPlumbCreeds$Valley;)V" } : Jvm.MethodName)), (Jvm.Cond.code ({ cls := "PlumbCreeds$Settling", name := "findAgain", desc := "(LPlumbCreeds$Valley;)V" } : Jvm.MethodName) prog_4_method_6_code (5 : Nat) (Option.none : Option Jvm.ClassFile.FieldType)), (Jvm.Cond.methodLink "PlumbCreeds$Settling" (72 : Nat) ({ cls := "PlumbCreeds$Settling", name := "start", desc := "(LPlumbCreeds$Valley;)V" } : Jvm.MethodName)), (Jvm.Cond.methodLink "PlumbCreeds$Settling" (76 : Nat) ({ cls := "PlumbCreeds$Settling", name := "heldAsNumber", desc := "()I" } : Jvm.MethodName)), (Jvm.Cond.privateMethod ({ cls := "PlumbCreeds$Settling", name := "heldAsNumber", desc := "()I" } : Jvm.MethodName)), (Jvm.Cond.instanceMethod ({ cls := "PlumbCreeds$Settling", name := "heldAsNumber", desc := "()I" } : Jvm.MethodName)), (Jvm.Cond.code ({ cls := "PlumbCreeds$Settling", name := "heldAsNumber", desc := "()I" } : Jvm.MethodName) prog_4_method_7_code (3 : Nat) (Option.some Jvm.ClassFile.FieldType.int)), (Jvm.Cond.methodLink "PlumbCreeds$Settling" (80 : Nat) ({ cls := "PlumbCreeds$Settling", name := "passYear", desc := "(LPlumbCreeds$Valley;)V" } : Jvm.MethodName)), (Jvm.Cond.methodLink "PlumbCreedsLaw" (123 : Nat) ({ cls := "PlumbCreeds", name := "climb", desc := "(IIIIII)J" } : Jvm.MethodName)), (Jvm.Cond.instanceMethod ({ cls := "PlumbCreeds", name := "climb", desc := "(IIIIII)J" } : Jvm.MethodName)), (Jvm.Cond.selects "PlumbCreeds" ({ cls := "PlumbCreeds", name := "climb", desc := "(IIIIII)J" } : Jvm.MethodName) ({ cls := "PlumbCreeds", name := "climb", desc := "(IIIIII)J" } : Jvm.MethodName)), (Jvm.Cond.code ({ cls := "PlumbCreeds", name := "climb", desc := "(IIIIII)J" } : Jvm.MethodName) prog_1_method_28_code (17 : Nat) (Option.some Jvm.ClassFile.FieldType.long)), (Jvm.Cond.constantLong "PlumbCreeds" (225 : Nat) (-1000000000000000002 : Int64)), (Jvm.Cond.constantLong "PlumbCreeds" (227 : Nat) (10 : Int64)), (Jvm.Cond.methodLink "PlumbCreeds" (229 : Nat) ({ cls := "java/lang/Math", name := "max", desc := "(JJ)J" } : Jvm.MethodName)), (Jvm.Cond.static ({ cls := "java/lang/Math", name := "max", desc := "(JJ)J" } : Jvm.MethodName)), (Jvm.Cond.code ({ cls := "java/lang/Math", name := "max", desc := "(JJ)J" } : Jvm.MethodName) prog_10_method_66_code (4 : Nat) (Option.some Jvm.ClassFile.FieldType.long)), (Jvm.Cond.methodLink "PlumbCreeds" (233 : Nat) ({ cls := "PlumbCreeds", name := "lowestTerm", desc := "(JJI)J" } : Jvm.MethodName)), (Jvm.Cond.static ({ cls := "PlumbCreeds", name := "lowestTerm", desc := "(JJI)J" } : Jvm.MethodName)), (Jvm.Cond.code ({ cls := "PlumbCreeds", name := "lowestTerm", desc := "(JJI)J" } : Jvm.MethodName) prog_1_method_42_code (9 : Nat) (Option.some Jvm.ClassFile.FieldType.long)), (Jvm.Cond.methodLink "PlumbCreeds" (268 : Nat) ({ cls := "PlumbCreeds", name := "commonDivisor", desc := "(JJ)J" } : Jvm.MethodName)), (Jvm.Cond.static ({ cls := "PlumbCreeds", name := "commonDivisor", desc := "(JJ)J" } : Jvm.MethodName)), (Jvm.Cond.code ({ cls := "PlumbCreeds", name := "commonDivisor", desc := "(JJ)J" } : Jvm.MethodName) prog_1_method_43_code (11 : Nat) (Option.some Jvm.ClassFile.FieldType.long)), (Jvm.Cond.methodLink "PlumbCreedsLaw" (128 : Nat) ({ cls := "PlumbCreeds", name := "book", desc := "(III)I" } : Jvm.MethodName))]
def am_c18 : List Cond := [(Jvm.Cond.instanceMethod ({ cls := "PlumbCreeds", name := "book", desc := "(III)I" } : Jvm.MethodName)), (Jvm.Cond.selects "PlumbCreeds" ({ cls := "PlumbCreeds", name := "book", desc := "(III)I" } : Jvm.MethodName) ({ cls := "PlumbCreeds", name := "book", desc := "(III)I" } : Jvm.MethodName)), (Jvm.Cond.code ({ cls := "PlumbCreeds", name := "book", desc := "(III)I" } : Jvm.MethodName) prog_1_method_29_code (4 : Nat) (Option.some Jvm.ClassFile.FieldType.int)), (Jvm.Cond.methodLink "PlumbCreeds" (237 : Nat) ({ cls := "PlumbCreeds$Telling", name := "tellBook", desc := "(IILPlumbCreeds$Valley;)V" } : Jvm.MethodName)), (Jvm.Cond.instanceMethod ({ cls := "PlumbCreeds$Telling", name := "tellBook", desc := "(IILPlumbCreeds$Valley;)V" } : Jvm.MethodName)), (Jvm.Cond.selects "PlumbCreeds$Telling" ({ cls := "PlumbCreeds$Telling", name := "tellBook", desc := "(IILPlumbCreeds$Valley;)V" } : Jvm.MethodName) ({ cls := "PlumbCreeds$Telling", name := "tellBook", desc := "(IILPlumbCreeds$Valley;)V" } : Jvm.MethodName)), (Jvm.Cond.code ({ cls := "PlumbCreeds$Telling", name := "tellBook", desc := "(IILPlumbCreeds$Valley;)V" } : Jvm.MethodName) prog_5_method_4_code (7 : Nat) (Option.none : Option Jvm.ClassFile.FieldType)), (Jvm.Cond.constant "PlumbCreeds$Telling" (71 : Nat) (65537 : Int32)), (Jvm.Cond.methodLink "PlumbCreeds$Telling" (72 : Nat) ({ cls := "PlumbCreeds$Telling", name := "kindDrawn", desc := "(I)I" } : Jvm.MethodName)), (Jvm.Cond.static ({ cls := "PlumbCreeds$Telling", name := "kindDrawn", desc := "(I)I" } : Jvm.MethodName)), (Jvm.Cond.code ({ cls := "PlumbCreeds$Telling", name := "kindDrawn", desc := "(I)I" } : Jvm.MethodName) prog_5_method_5_code (1 : Nat) (Option.some Jvm.ClassFile.FieldType.int)), (Jvm.Cond.methodLink "PlumbCreeds" (244 : Nat) ({ cls := "PlumbCreeds$Valley", name := "doubtOfAll", desc := "()I" } : Jvm.MethodName)), (Jvm.Cond.instanceMethod ({ cls := "PlumbCreeds$Valley", name := "doubtOfAll", desc := "()I" } : Jvm.MethodName)), (Jvm.Cond.selects "PlumbCreeds$Valley" ({ cls := "PlumbCreeds$Valley", name := "doubtOfAll", desc := "()I" } : Jvm.MethodName) ({ cls := "PlumbCreeds$Valley", name := "doubtOfAll", desc := "()I" } : Jvm.MethodName)), (Jvm.Cond.code ({ cls := "PlumbCreeds$Valley", name := "doubtOfAll", desc := "()I" } : Jvm.MethodName) prog_6_method_15_code (3 : Nat) (Option.some Jvm.ClassFile.FieldType.int)), (Jvm.Cond.methodLink "PlumbCreedsLaw" (132 : Nat) ({ cls := "PlumbCreeds", name := "image", desc := "(I)I" } : Jvm.MethodName)), (Jvm.Cond.instanceMethod ({ cls := "PlumbCreeds", name := "image", desc := "(I)I" } : Jvm.MethodName)), (Jvm.Cond.selects "PlumbCreeds" ({ cls := "PlumbCreeds", name := "image", desc := "(I)I" } : Jvm.MethodName) ({ cls := "PlumbCreeds", name := "image", desc := "(I)I" } : Jvm.MethodName)), (Jvm.Cond.code ({ cls := "PlumbCreeds", name := "image", desc := "(I)I" } : Jvm.MethodName) prog_1_method_30_code (2 : Nat) (Option.some Jvm.ClassFile.FieldType.int)), (Jvm.Cond.methodLink "PlumbCreeds" (247 : Nat) ({ cls := "PlumbCreeds", name := "imageAt", desc := "(I)LPlumbCreeds$Valley;" } : Jvm.MethodName)), (Jvm.Cond.privateMethod ({ cls := "PlumbCreeds", name := "imageAt", desc := "(I)LPlumbCreeds$Valley;" } : Jvm.MethodName)), (Jvm.Cond.instanceMethod ({ cls := "PlumbCreeds", name := "imageAt", desc := "(I)LPlumbCreeds$Valley;" } : Jvm.MethodName)), (Jvm.Cond.code ({ cls := "PlumbCreeds", name := "imageAt", desc := "(I)LPlumbCreeds$Valley;" } : Jvm.MethodName) prog_1_method_44_code (2 : Nat) (Option.some (Jvm.ClassFile.FieldType.object "PlumbCreeds$Valley"))), (Jvm.Cond.methodLink "PlumbCreedsLaw" (136 : Nat) ({ cls := "PlumbCreeds", name := "restore", desc := "(I)I" } : Jvm.MethodName)), (Jvm.Cond.instanceMethod ({ cls := "PlumbCreeds", name := "restore", desc := "(I)I" } : Jvm.MethodName)), (Jvm.Cond.selects "PlumbCreeds" ({ cls := "PlumbCreeds", name := "restore", desc := "(I)I" } : Jvm.MethodName) ({ cls := "PlumbCreeds", name := "restore", desc := "(I)I" } : Jvm.MethodName)), (Jvm.Cond.code ({ cls := "PlumbCreeds", name := "restore", desc := "(I)I" } : Jvm.MethodName) prog_1_method_31_code (2 : Nat) (Option.some Jvm.ClassFile.FieldType.int)), (Jvm.Cond.methodLink "PlumbCreedsLaw" (140 : Nat) ({ cls := "PlumbCreeds", name := "told", desc := "(I)I" } : Jvm.MethodName)), (Jvm.Cond.instanceMethod ({ cls := "PlumbCreeds", name := "told", desc := "(I)I" } : Jvm.MethodName)), (Jvm.Cond.selects "PlumbCreeds" ({ cls := "PlumbCreeds", name := "told", desc := "(I)I" } : Jvm.MethodName) ({ cls := "PlumbCreeds", name := "told", desc := "(I)I" } : Jvm.MethodName)), (Jvm.Cond.code ({ cls := "PlumbCreeds", name := "told", desc := "(I)I" } : Jvm.MethodName) prog_1_method_32_code (2 : Nat) (Option.some Jvm.ClassFile.FieldType.int)), (Jvm.Cond.methodLink "PlumbCreeds" (251 : Nat) ({ cls := "PlumbCreeds", name := "toldOfAll", desc := "(I)I" } : Jvm.MethodName))]
def am_c19 : List Cond := [(Jvm.Cond.privateMethod ({ cls := "PlumbCreeds", name := "toldOfAll", desc := "(I)I" } : Jvm.MethodName)), (Jvm.Cond.instanceMethod ({ cls := "PlumbCreeds", name := "toldOfAll", desc := "(I)I" } : Jvm.MethodName)), (Jvm.Cond.code ({ cls := "PlumbCreeds", name := "toldOfAll", desc := "(I)I" } : Jvm.MethodName) prog_1_method_45_code (2 : Nat) (Option.some Jvm.ClassFile.FieldType.int)), (Jvm.Cond.methodLink "PlumbCreeds" (254 : Nat) ({ cls := "PlumbCreeds", name := "toldOfOne", desc := "(II)I" } : Jvm.MethodName)), (Jvm.Cond.privateMethod ({ cls := "PlumbCreeds", name := "toldOfOne", desc := "(II)I" } : Jvm.MethodName)), (Jvm.Cond.instanceMethod ({ cls := "PlumbCreeds", name := "toldOfOne", desc := "(II)I" } : Jvm.MethodName)), (Jvm.Cond.code ({ cls := "PlumbCreeds", name := "toldOfOne", desc := "(II)I" } : Jvm.MethodName) prog_1_method_46_code (3 : Nat) (Option.some Jvm.ClassFile.FieldType.int)), (Jvm.Cond.methodLink "PlumbCreeds" (257 : Nat) ({ cls := "PlumbCreeds", name := "toldOfWall", desc := "(II)I" } : Jvm.MethodName)), (Jvm.Cond.privateMethod ({ cls := "PlumbCreeds", name := "toldOfWall", desc := "(II)I" } : Jvm.MethodName)), (Jvm.Cond.instanceMethod ({ cls := "PlumbCreeds", name := "toldOfWall", desc := "(II)I" } : Jvm.MethodName)), (Jvm.Cond.code ({ cls := "PlumbCreeds", name := "toldOfWall", desc := "(II)I" } : Jvm.MethodName) prog_1_method_47_code (3 : Nat) (Option.some Jvm.ClassFile.FieldType.int)), (Jvm.Cond.methodLink "PlumbCreeds" (260 : Nat) ({ cls := "PlumbCreeds", name := "toldOfStair", desc := "(I)I" } : Jvm.MethodName)), (Jvm.Cond.privateMethod ({ cls := "PlumbCreeds", name := "toldOfStair", desc := "(I)I" } : Jvm.MethodName)), (Jvm.Cond.instanceMethod ({ cls := "PlumbCreeds", name := "toldOfStair", desc := "(I)I" } : Jvm.MethodName)), (Jvm.Cond.code ({ cls := "PlumbCreeds", name := "toldOfStair", desc := "(I)I" } : Jvm.MethodName) prog_1_method_48_code (2 : Nat) (Option.some Jvm.ClassFile.FieldType.int)), (Jvm.Cond.classLink "PlumbCreedsLaw" (10 : Nat) "PlumbCreedsModel"), (Jvm.Cond.instantiable "PlumbCreedsModel" (24 : Nat)), (Jvm.Cond.methodLink "PlumbCreedsLaw" (12 : Nat) ({ cls := "PlumbCreedsModel", name := "<init>", desc := "()V" } : Jvm.MethodName)), (Jvm.Cond.instanceMethod ({ cls := "PlumbCreedsModel", name := "<init>", desc := "()V" } : Jvm.MethodName)), (Jvm.Cond.code ({ cls := "PlumbCreedsModel", name := "<init>", desc := "()V" } : Jvm.MethodName) prog_8_method_1_code (1 : Nat) (Option.none : Option Jvm.ClassFile.FieldType)), (Jvm.Cond.methodLink "PlumbCreedsModel" (1 : Nat) ({ cls := "java/lang/Object", name := "<init>", desc := "()V" } : Jvm.MethodName)), (Jvm.Cond.fieldLink "PlumbCreedsModel" (7 : Nat) "PlumbCreedsModel" "book" "[I"), (Jvm.Cond.fieldLink "PlumbCreedsModel" (13 : Nat) "PlumbCreedsModel" "now" "[I"), (Jvm.Cond.fieldLink "PlumbCreedsModel" (61 : Nat) "PlumbCreedsModel" "there" "I"), (Jvm.Cond.fieldLink "PlumbCreedsModel" (16 : Nat) "PlumbCreedsModel" "down" "[I"), (Jvm.Cond.fieldLink "PlumbCreedsModel" (19 : Nat) "PlumbCreedsModel" "bear" "I"), (Jvm.Cond.fieldLink "PlumbCreedsModel" (23 : Nat) "PlumbCreedsModel" "kin" "[I"), (Jvm.Cond.fieldLink "PlumbCreedsModel" (82 : Nat) "PlumbCreedsModel" "stairs" "I"), (Jvm.Cond.fieldLink "PlumbCreedsModel" (26 : Nat) "PlumbCreedsModel" "from" "[I"), (Jvm.Cond.fieldLink "PlumbCreedsModel" (29 : Nat) "PlumbCreedsModel" "to" "[I"), (Jvm.Cond.fieldLink "PlumbCreedsModel" (32 : Nat) "PlumbCreedsModel" "slope" "[I"), (Jvm.Cond.fieldLink "PlumbCreedsModel" (146 : Nat) "PlumbCreedsModel" "sights" "I")]
def am_c20 : List Cond := [(Jvm.Cond.fieldLink "PlumbCreedsModel" (35 : Nat) "PlumbCreedsModel" "sight" "[I"), (Jvm.Cond.fieldLink "PlumbCreedsModel" (85 : Nat) "PlumbCreedsModel" "signs" "I"), (Jvm.Cond.fieldLink "PlumbCreedsModel" (38 : Nat) "PlumbCreedsModel" "pad" "[I"), (Jvm.Cond.fieldLink "PlumbCreedsModel" (92 : Nat) "PlumbCreedsModel" "falls" "I"), (Jvm.Cond.fieldLink "PlumbCreedsModel" (95 : Nat) "PlumbCreedsModel" "fellAt" "I"), (Jvm.Cond.fieldLink "PlumbCreedsModel" (98 : Nat) "PlumbCreedsModel" "fellWho" "I"), (Jvm.Cond.fieldLink "PlumbCreedsModel" (110 : Nat) "PlumbCreedsModel" "reason" "I"), (Jvm.Cond.fieldLink "PlumbCreedsModel" (107 : Nat) "PlumbCreedsModel" "acts" "I"), (Jvm.Cond.fieldLink "PlumbCreedsModel" (41 : Nat) "PlumbCreedsModel" "far" "[I"), (Jvm.Cond.fieldLink "PlumbCreedsModel" (44 : Nat) "PlumbCreedsModel" "counts" "[I"), (Jvm.Cond.fieldLink "PlumbCreedsModel" (47 : Nat) "PlumbCreedsModel" "year" "[I"), (Jvm.Cond.fieldLink "PlumbCreedsModel" (50 : Nat) "PlumbCreedsModel" "image" "[I"), (Jvm.Cond.fieldLink "PlumbCreedsModel" (53 : Nat) "PlumbCreedsModel" "isKept" "[Z"), (Jvm.Cond.laysFinal "PlumbCreedsModel" "PlumbCreedsModel" "book" "[I"), (Jvm.Cond.soleField "PlumbCreedsModel" "book"), (Jvm.Cond.laysFinal "PlumbCreedsModel" "PlumbCreedsModel" "now" "[I"), (Jvm.Cond.soleField "PlumbCreedsModel" "now"), (Jvm.Cond.lays "PlumbCreedsModel" "PlumbCreedsModel" "there" "I"), (Jvm.Cond.soleField "PlumbCreedsModel" "there"), (Jvm.Cond.laysFinal "PlumbCreedsModel" "PlumbCreedsModel" "down" "[I"), (Jvm.Cond.soleField "PlumbCreedsModel" "down"), (Jvm.Cond.lays "PlumbCreedsModel" "PlumbCreedsModel" "bear" "I"), (Jvm.Cond.soleField "PlumbCreedsModel" "bear"), (Jvm.Cond.laysFinal "PlumbCreedsModel" "PlumbCreedsModel" "kin" "[I"), (Jvm.Cond.soleField "PlumbCreedsModel" "kin"), (Jvm.Cond.lays "PlumbCreedsModel" "PlumbCreedsModel" "stairs" "I"), (Jvm.Cond.soleField "PlumbCreedsModel" "stairs"), (Jvm.Cond.laysFinal "PlumbCreedsModel" "PlumbCreedsModel" "from" "[I"), (Jvm.Cond.soleField "PlumbCreedsModel" "from"), (Jvm.Cond.laysFinal "PlumbCreedsModel" "PlumbCreedsModel" "to" "[I"), (Jvm.Cond.soleField "PlumbCreedsModel" "to"), (Jvm.Cond.laysFinal "PlumbCreedsModel" "PlumbCreedsModel" "slope" "[I")]
def am_c21 : List Cond := [(Jvm.Cond.soleField "PlumbCreedsModel" "slope"), (Jvm.Cond.lays "PlumbCreedsModel" "PlumbCreedsModel" "sights" "I"), (Jvm.Cond.soleField "PlumbCreedsModel" "sights"), (Jvm.Cond.laysFinal "PlumbCreedsModel" "PlumbCreedsModel" "sight" "[I"), (Jvm.Cond.soleField "PlumbCreedsModel" "sight"), (Jvm.Cond.lays "PlumbCreedsModel" "PlumbCreedsModel" "signs" "I"), (Jvm.Cond.soleField "PlumbCreedsModel" "signs"), (Jvm.Cond.laysFinal "PlumbCreedsModel" "PlumbCreedsModel" "pad" "[I"), (Jvm.Cond.soleField "PlumbCreedsModel" "pad"), (Jvm.Cond.lays "PlumbCreedsModel" "PlumbCreedsModel" "falls" "I"), (Jvm.Cond.soleField "PlumbCreedsModel" "falls"), (Jvm.Cond.lays "PlumbCreedsModel" "PlumbCreedsModel" "fellAt" "I"), (Jvm.Cond.soleField "PlumbCreedsModel" "fellAt"), (Jvm.Cond.lays "PlumbCreedsModel" "PlumbCreedsModel" "fellWho" "I"), (Jvm.Cond.soleField "PlumbCreedsModel" "fellWho"), (Jvm.Cond.lays "PlumbCreedsModel" "PlumbCreedsModel" "reason" "I"), (Jvm.Cond.soleField "PlumbCreedsModel" "reason"), (Jvm.Cond.lays "PlumbCreedsModel" "PlumbCreedsModel" "acts" "I"), (Jvm.Cond.soleField "PlumbCreedsModel" "acts"), (Jvm.Cond.laysFinal "PlumbCreedsModel" "PlumbCreedsModel" "far" "[I"), (Jvm.Cond.soleField "PlumbCreedsModel" "far"), (Jvm.Cond.laysFinal "PlumbCreedsModel" "PlumbCreedsModel" "counts" "[I"), (Jvm.Cond.soleField "PlumbCreedsModel" "counts"), (Jvm.Cond.laysFinal "PlumbCreedsModel" "PlumbCreedsModel" "year" "[I"), (Jvm.Cond.soleField "PlumbCreedsModel" "year"), (Jvm.Cond.laysFinal "PlumbCreedsModel" "PlumbCreedsModel" "image" "[I"), (Jvm.Cond.soleField "PlumbCreedsModel" "image"), (Jvm.Cond.laysFinal "PlumbCreedsModel" "PlumbCreedsModel" "isKept" "[Z"), (Jvm.Cond.soleField "PlumbCreedsModel" "isKept"), (Jvm.Cond.superclass "PlumbCreedsModel" "java/lang/Object"), (Jvm.Cond.arrayClass Jvm.ClassFile.FieldType.boolean), (Jvm.Cond.methodLink "PlumbCreedsLaw" (17 : Nat) ({ cls := "PlumbCreedsModel", name := "creed", desc := "(II)I" } : Jvm.MethodName))]
def am_c22 : List Cond := [(Jvm.Cond.instanceMethod ({ cls := "PlumbCreedsModel", name := "creed", desc := "(II)I" } : Jvm.MethodName)), (Jvm.Cond.selects "PlumbCreedsModel" ({ cls := "PlumbCreedsModel", name := "creed", desc := "(II)I" } : Jvm.MethodName) ({ cls := "PlumbCreedsModel", name := "creed", desc := "(II)I" } : Jvm.MethodName)), (Jvm.Cond.code ({ cls := "PlumbCreedsModel", name := "creed", desc := "(II)I" } : Jvm.MethodName) prog_8_method_8_code (4 : Nat) (Option.some Jvm.ClassFile.FieldType.int)), (Jvm.Cond.methodLink "PlumbCreedsModel" (57 : Nat) ({ cls := "PlumbCreedsModel", name := "in", desc := "(III)Z" } : Jvm.MethodName)), (Jvm.Cond.static ({ cls := "PlumbCreedsModel", name := "in", desc := "(III)Z" } : Jvm.MethodName)), (Jvm.Cond.code ({ cls := "PlumbCreedsModel", name := "in", desc := "(III)Z" } : Jvm.MethodName) prog_8_method_2_code (3 : Nat) (Option.some Jvm.ClassFile.FieldType.boolean)), (Jvm.Cond.methodLink "PlumbCreedsModel" (68 : Nat) ({ cls := "PlumbCreedsModel", name := "isLean", desc := "(I)Z" } : Jvm.MethodName)), (Jvm.Cond.static ({ cls := "PlumbCreedsModel", name := "isLean", desc := "(I)Z" } : Jvm.MethodName)), (Jvm.Cond.code ({ cls := "PlumbCreedsModel", name := "isLean", desc := "(I)Z" } : Jvm.MethodName) prog_8_method_6_code (1 : Nat) (Option.some Jvm.ClassFile.FieldType.boolean)), (Jvm.Cond.methodLink "PlumbCreedsLaw" (22 : Nat) ({ cls := "PlumbCreedsModel", name := "bear", desc := "(I)I" } : Jvm.MethodName)), (Jvm.Cond.instanceMethod ({ cls := "PlumbCreedsModel", name := "bear", desc := "(I)I" } : Jvm.MethodName)), (Jvm.Cond.selects "PlumbCreedsModel" ({ cls := "PlumbCreedsModel", name := "bear", desc := "(I)I" } : Jvm.MethodName) ({ cls := "PlumbCreedsModel", name := "bear", desc := "(I)I" } : Jvm.MethodName)), (Jvm.Cond.code ({ cls := "PlumbCreedsModel", name := "bear", desc := "(I)I" } : Jvm.MethodName) prog_8_method_9_code (3 : Nat) (Option.some Jvm.ClassFile.FieldType.int)), (Jvm.Cond.methodLink "PlumbCreedsLaw" (27 : Nat) ({ cls := "PlumbCreedsModel", name := "one", desc := "(III)I" } : Jvm.MethodName)), (Jvm.Cond.instanceMethod ({ cls := "PlumbCreedsModel", name := "one", desc := "(III)I" } : Jvm.MethodName)), (Jvm.Cond.selects "PlumbCreedsModel" ({ cls := "PlumbCreedsModel", name := "one", desc := "(III)I" } : Jvm.MethodName) ({ cls := "PlumbCreedsModel", name := "one", desc := "(III)I" } : Jvm.MethodName)), (Jvm.Cond.code ({ cls := "PlumbCreedsModel", name := "one", desc := "(III)I" } : Jvm.MethodName) prog_8_method_10_code (4 : Nat) (Option.some Jvm.ClassFile.FieldType.int)), (Jvm.Cond.methodLink "PlumbCreedsModel" (72 : Nat) ({ cls := "PlumbCreedsModel", name := "bits", desc := "(I)I" } : Jvm.MethodName)), (Jvm.Cond.static ({ cls := "PlumbCreedsModel", name := "bits", desc := "(I)I" } : Jvm.MethodName)), (Jvm.Cond.code ({ cls := "PlumbCreedsModel", name := "bits", desc := "(I)I" } : Jvm.MethodName) prog_8_method_4_code (3 : Nat) (Option.some Jvm.ClassFile.FieldType.int)), (Jvm.Cond.methodLink "PlumbCreedsLaw" (31 : Nat) ({ cls := "PlumbCreedsModel", name := "leave", desc := "(I)I" } : Jvm.MethodName)), (Jvm.Cond.instanceMethod ({ cls := "PlumbCreedsModel", name := "leave", desc := "(I)I" } : Jvm.MethodName)), (Jvm.Cond.selects "PlumbCreedsModel" ({ cls := "PlumbCreedsModel", name := "leave", desc := "(I)I" } : Jvm.MethodName) ({ cls := "PlumbCreedsModel", name := "leave", desc := "(I)I" } : Jvm.MethodName)), (Jvm.Cond.code ({ cls := "PlumbCreedsModel", name := "leave", desc := "(I)I" } : Jvm.MethodName) prog_8_method_11_code (2 : Nat) (Option.some Jvm.ClassFile.FieldType.int)), (Jvm.Cond.methodLink "PlumbCreedsModel" (76 : Nat) ({ cls := "PlumbCreedsModel", name := "isThere", desc := "(I)Z" } : Jvm.MethodName)), (Jvm.Cond.privateMethod ({ cls := "PlumbCreedsModel", name := "isThere", desc := "(I)Z" } : Jvm.MethodName)), (Jvm.Cond.instanceMethod ({ cls := "PlumbCreedsModel", name := "isThere", desc := "(I)Z" } : Jvm.MethodName)), (Jvm.Cond.code ({ cls := "PlumbCreedsModel", name := "isThere", desc := "(I)Z" } : Jvm.MethodName) prog_8_method_5_code (2 : Nat) (Option.some Jvm.ClassFile.FieldType.boolean)), (Jvm.Cond.methodLink "PlumbCreedsModel" (64 : Nat) ({ cls := "PlumbCreedsModel", name := "has", desc := "(II)Z" } : Jvm.MethodName)), (Jvm.Cond.static ({ cls := "PlumbCreedsModel", name := "has", desc := "(II)Z" } : Jvm.MethodName)), (Jvm.Cond.code ({ cls := "PlumbCreedsModel", name := "has", desc := "(II)Z" } : Jvm.MethodName) prog_8_method_3_code (2 : Nat) (Option.some Jvm.ClassFile.FieldType.boolean)), (Jvm.Cond.methodLink "PlumbCreedsLaw" (36 : Nat) ({ cls := "PlumbCreedsModel", name := "kin", desc := "(IIZ)I" } : Jvm.MethodName))]
def am_c23 : List Cond := [(Jvm.Cond.instanceMethod ({ cls := "PlumbCreedsModel", name := "kin", desc := "(IIZ)I" } : Jvm.MethodName)), (Jvm.Cond.selects "PlumbCreedsModel" ({ cls := "PlumbCreedsModel", name := "kin", desc := "(IIZ)I" } : Jvm.MethodName) ({ cls := "PlumbCreedsModel", name := "kin", desc := "(IIZ)I" } : Jvm.MethodName)), (Jvm.Cond.code ({ cls := "PlumbCreedsModel", name := "kin", desc := "(IIZ)I" } : Jvm.MethodName) prog_8_method_12_code (6 : Nat) (Option.some Jvm.ClassFile.FieldType.int)), (Jvm.Cond.methodLink "PlumbCreedsLaw" (41 : Nat) ({ cls := "PlumbCreedsModel", name := "stair", desc := "(IIII)I" } : Jvm.MethodName)), (Jvm.Cond.instanceMethod ({ cls := "PlumbCreedsModel", name := "stair", desc := "(IIII)I" } : Jvm.MethodName)), (Jvm.Cond.selects "PlumbCreedsModel" ({ cls := "PlumbCreedsModel", name := "stair", desc := "(IIII)I" } : Jvm.MethodName) ({ cls := "PlumbCreedsModel", name := "stair", desc := "(IIII)I" } : Jvm.MethodName)), (Jvm.Cond.code ({ cls := "PlumbCreedsModel", name := "stair", desc := "(IIII)I" } : Jvm.MethodName) prog_8_method_14_code (5 : Nat) (Option.some Jvm.ClassFile.FieldType.int)), (Jvm.Cond.methodLink "PlumbCreedsModel" (79 : Nat) ({ cls := "PlumbCreedsModel", name := "isPlace", desc := "(I)Z" } : Jvm.MethodName)), (Jvm.Cond.static ({ cls := "PlumbCreedsModel", name := "isPlace", desc := "(I)Z" } : Jvm.MethodName)), (Jvm.Cond.code ({ cls := "PlumbCreedsModel", name := "isPlace", desc := "(I)Z" } : Jvm.MethodName) prog_8_method_13_code (1 : Nat) (Option.some Jvm.ClassFile.FieldType.boolean)), (Jvm.Cond.methodLink "PlumbCreedsLaw" (45 : Nat) ({ cls := "PlumbCreedsModel", name := "say", desc := "(I)I" } : Jvm.MethodName)), (Jvm.Cond.instanceMethod ({ cls := "PlumbCreedsModel", name := "say", desc := "(I)I" } : Jvm.MethodName)), (Jvm.Cond.selects "PlumbCreedsModel" ({ cls := "PlumbCreedsModel", name := "say", desc := "(I)I" } : Jvm.MethodName) ({ cls := "PlumbCreedsModel", name := "say", desc := "(I)I" } : Jvm.MethodName)), (Jvm.Cond.code ({ cls := "PlumbCreedsModel", name := "say", desc := "(I)I" } : Jvm.MethodName) prog_8_method_15_code (2 : Nat) (Option.some Jvm.ClassFile.FieldType.int)), (Jvm.Cond.methodLink "PlumbCreedsLaw" (50 : Nat) ({ cls := "PlumbCreedsModel", name := "wipe", desc := "()I" } : Jvm.MethodName)), (Jvm.Cond.instanceMethod ({ cls := "PlumbCreedsModel", name := "wipe", desc := "()I" } : Jvm.MethodName)), (Jvm.Cond.selects "PlumbCreedsModel" ({ cls := "PlumbCreedsModel", name := "wipe", desc := "()I" } : Jvm.MethodName) ({ cls := "PlumbCreedsModel", name := "wipe", desc := "()I" } : Jvm.MethodName)), (Jvm.Cond.code ({ cls := "PlumbCreedsModel", name := "wipe", desc := "()I" } : Jvm.MethodName) prog_8_method_16_code (2 : Nat) (Option.some Jvm.ClassFile.FieldType.int)), (Jvm.Cond.methodLink "PlumbCreedsLaw" (54 : Nat) ({ cls := "PlumbCreedsModel", name := "fault", desc := "()I" } : Jvm.MethodName)), (Jvm.Cond.instanceMethod ({ cls := "PlumbCreedsModel", name := "fault", desc := "()I" } : Jvm.MethodName)), (Jvm.Cond.selects "PlumbCreedsModel" ({ cls := "PlumbCreedsModel", name := "fault", desc := "()I" } : Jvm.MethodName) ({ cls := "PlumbCreedsModel", name := "fault", desc := "()I" } : Jvm.MethodName)), (Jvm.Cond.code ({ cls := "PlumbCreedsModel", name := "fault", desc := "()I" } : Jvm.MethodName) prog_8_method_18_code (1 : Nat) (Option.some Jvm.ClassFile.FieldType.int)), (Jvm.Cond.methodLink "PlumbCreedsModel" (88 : Nat) ({ cls := "PlumbCreedsModel", name := "faultOf", desc := "()I" } : Jvm.MethodName)), (Jvm.Cond.privateMethod ({ cls := "PlumbCreedsModel", name := "faultOf", desc := "()I" } : Jvm.MethodName)), (Jvm.Cond.instanceMethod ({ cls := "PlumbCreedsModel", name := "faultOf", desc := "()I" } : Jvm.MethodName)), (Jvm.Cond.code ({ cls := "PlumbCreedsModel", name := "faultOf", desc := "()I" } : Jvm.MethodName) prog_8_method_17_code (6 : Nat) (Option.some Jvm.ClassFile.FieldType.int)), (Jvm.Cond.methodLink "PlumbCreedsLaw" (58 : Nat) ({ cls := "PlumbCreedsModel", name := "judge", desc := "(I)I" } : Jvm.MethodName)), (Jvm.Cond.instanceMethod ({ cls := "PlumbCreedsModel", name := "judge", desc := "(I)I" } : Jvm.MethodName)), (Jvm.Cond.selects "PlumbCreedsModel" ({ cls := "PlumbCreedsModel", name := "judge", desc := "(I)I" } : Jvm.MethodName) ({ cls := "PlumbCreedsModel", name := "judge", desc := "(I)I" } : Jvm.MethodName)), (Jvm.Cond.code ({ cls := "PlumbCreedsModel", name := "judge", desc := "(I)I" } : Jvm.MethodName) prog_8_method_26_code (3 : Nat) (Option.some Jvm.ClassFile.FieldType.int)), (Jvm.Cond.methodLink "PlumbCreedsModel" (129 : Nat) ({ cls := "PlumbCreedsModel", name := "goYears", desc := "()I" } : Jvm.MethodName)), (Jvm.Cond.privateMethod ({ cls := "PlumbCreedsModel", name := "goYears", desc := "()I" } : Jvm.MethodName))]
def am_c24 : List Cond := [(Jvm.Cond.instanceMethod ({ cls := "PlumbCreedsModel", name := "goYears", desc := "()I" } : Jvm.MethodName)), (Jvm.Cond.code ({ cls := "PlumbCreedsModel", name := "goYears", desc := "()I" } : Jvm.MethodName) prog_8_method_25_code (5 : Nat) (Option.some Jvm.ClassFile.FieldType.int)), (Jvm.Cond.methodLink "PlumbCreedsModel" (104 : Nat) ({ cls := "PlumbCreedsModel", name := "asNow", desc := "()V" } : Jvm.MethodName)), (Jvm.Cond.privateMethod ({ cls := "PlumbCreedsModel", name := "asNow", desc := "()V" } : Jvm.MethodName)), (Jvm.Cond.instanceMethod ({ cls := "PlumbCreedsModel", name := "asNow", desc := "()V" } : Jvm.MethodName)), (Jvm.Cond.code ({ cls := "PlumbCreedsModel", name := "asNow", desc := "()V" } : Jvm.MethodName) prog_8_method_19_code (2 : Nat) (Option.none : Option Jvm.ClassFile.FieldType)), (Jvm.Cond.methodLink "PlumbCreedsModel" (113 : Nat) ({ cls := "PlumbCreedsModel", name := "endYear", desc := "()I" } : Jvm.MethodName)), (Jvm.Cond.privateMethod ({ cls := "PlumbCreedsModel", name := "endYear", desc := "()I" } : Jvm.MethodName)), (Jvm.Cond.instanceMethod ({ cls := "PlumbCreedsModel", name := "endYear", desc := "()I" } : Jvm.MethodName)), (Jvm.Cond.code ({ cls := "PlumbCreedsModel", name := "endYear", desc := "()I" } : Jvm.MethodName) prog_8_method_24_code (1 : Nat) (Option.some Jvm.ClassFile.FieldType.int)), (Jvm.Cond.methodLink "PlumbCreedsModel" (116 : Nat) ({ cls := "PlumbCreedsModel", name := "quake", desc := "()V" } : Jvm.MethodName)), (Jvm.Cond.privateMethod ({ cls := "PlumbCreedsModel", name := "quake", desc := "()V" } : Jvm.MethodName)), (Jvm.Cond.instanceMethod ({ cls := "PlumbCreedsModel", name := "quake", desc := "()V" } : Jvm.MethodName)), (Jvm.Cond.code ({ cls := "PlumbCreedsModel", name := "quake", desc := "()V" } : Jvm.MethodName) prog_8_method_23_code (2 : Nat) (Option.none : Option Jvm.ClassFile.FieldType)), (Jvm.Cond.methodLink "PlumbCreedsModel" (119 : Nat) ({ cls := "PlumbCreedsModel", name := "climbUp", desc := "(II)I" } : Jvm.MethodName)), (Jvm.Cond.privateMethod ({ cls := "PlumbCreedsModel", name := "climbUp", desc := "(II)I" } : Jvm.MethodName)), (Jvm.Cond.instanceMethod ({ cls := "PlumbCreedsModel", name := "climbUp", desc := "(II)I" } : Jvm.MethodName)), (Jvm.Cond.code ({ cls := "PlumbCreedsModel", name := "climbUp", desc := "(II)I" } : Jvm.MethodName) prog_8_method_21_code (3 : Nat) (Option.some Jvm.ClassFile.FieldType.int)), (Jvm.Cond.methodLink "PlumbCreedsModel" (101 : Nat) ({ cls := "PlumbCreedsModel", name := "doesBear", desc := "(II)Z" } : Jvm.MethodName)), (Jvm.Cond.privateMethod ({ cls := "PlumbCreedsModel", name := "doesBear", desc := "(II)Z" } : Jvm.MethodName)), (Jvm.Cond.instanceMethod ({ cls := "PlumbCreedsModel", name := "doesBear", desc := "(II)Z" } : Jvm.MethodName)), (Jvm.Cond.code ({ cls := "PlumbCreedsModel", name := "doesBear", desc := "(II)Z" } : Jvm.MethodName) prog_8_method_7_code (3 : Nat) (Option.some Jvm.ClassFile.FieldType.boolean)), (Jvm.Cond.methodLink "PlumbCreedsModel" (123 : Nat) ({ cls := "PlumbCreedsModel", name := "convert", desc := "(II)I" } : Jvm.MethodName)), (Jvm.Cond.privateMethod ({ cls := "PlumbCreedsModel", name := "convert", desc := "(II)I" } : Jvm.MethodName)), (Jvm.Cond.instanceMethod ({ cls := "PlumbCreedsModel", name := "convert", desc := "(II)I" } : Jvm.MethodName)), (Jvm.Cond.code ({ cls := "PlumbCreedsModel", name := "convert", desc := "(II)I" } : Jvm.MethodName) prog_8_method_22_code (3 : Nat) (Option.some Jvm.ClassFile.FieldType.int)), (Jvm.Cond.methodLink "PlumbCreedsModel" (126 : Nat) ({ cls := "PlumbCreedsModel", name := "build", desc := "(II)I" } : Jvm.MethodName)), (Jvm.Cond.privateMethod ({ cls := "PlumbCreedsModel", name := "build", desc := "(II)I" } : Jvm.MethodName)), (Jvm.Cond.instanceMethod ({ cls := "PlumbCreedsModel", name := "build", desc := "(II)I" } : Jvm.MethodName)), (Jvm.Cond.code ({ cls := "PlumbCreedsModel", name := "build", desc := "(II)I" } : Jvm.MethodName) prog_8_method_20_code (3 : Nat) (Option.some Jvm.ClassFile.FieldType.int)), (Jvm.Cond.methodLink "PlumbCreedsLaw" (62 : Nat) ({ cls := "PlumbCreedsModel", name := "done", desc := "()I" } : Jvm.MethodName)), (Jvm.Cond.instanceMethod ({ cls := "PlumbCreedsModel", name := "done", desc := "()I" } : Jvm.MethodName))]
def am_c25 : List Cond := [(Jvm.Cond.selects "PlumbCreedsModel" ({ cls := "PlumbCreedsModel", name := "done", desc := "()I" } : Jvm.MethodName) ({ cls := "PlumbCreedsModel", name := "done", desc := "()I" } : Jvm.MethodName)), (Jvm.Cond.code ({ cls := "PlumbCreedsModel", name := "done", desc := "()I" } : Jvm.MethodName) prog_8_method_28_code (2 : Nat) (Option.some Jvm.ClassFile.FieldType.int)), (Jvm.Cond.methodLink "PlumbCreedsModel" (132 : Nat) ({ cls := "PlumbCreedsModel", name := "barOfYears", desc := "()I" } : Jvm.MethodName)), (Jvm.Cond.privateMethod ({ cls := "PlumbCreedsModel", name := "barOfYears", desc := "()I" } : Jvm.MethodName)), (Jvm.Cond.instanceMethod ({ cls := "PlumbCreedsModel", name := "barOfYears", desc := "()I" } : Jvm.MethodName)), (Jvm.Cond.code ({ cls := "PlumbCreedsModel", name := "barOfYears", desc := "()I" } : Jvm.MethodName) prog_8_method_27_code (1 : Nat) (Option.some Jvm.ClassFile.FieldType.int)), (Jvm.Cond.methodLink "PlumbCreedsLaw" (66 : Nat) ({ cls := "PlumbCreedsModel", name := "behind", desc := "(II)I" } : Jvm.MethodName)), (Jvm.Cond.instanceMethod ({ cls := "PlumbCreedsModel", name := "behind", desc := "(II)I" } : Jvm.MethodName)), (Jvm.Cond.selects "PlumbCreedsModel" ({ cls := "PlumbCreedsModel", name := "behind", desc := "(II)I" } : Jvm.MethodName) ({ cls := "PlumbCreedsModel", name := "behind", desc := "(II)I" } : Jvm.MethodName)), (Jvm.Cond.code ({ cls := "PlumbCreedsModel", name := "behind", desc := "(II)I" } : Jvm.MethodName) prog_8_method_29_code (3 : Nat) (Option.some Jvm.ClassFile.FieldType.int)), (Jvm.Cond.methodLink "PlumbCreedsLaw" (70 : Nat) ({ cls := "PlumbCreedsModel", name := "wall", desc := "(II)I" } : Jvm.MethodName)), (Jvm.Cond.instanceMethod ({ cls := "PlumbCreedsModel", name := "wall", desc := "(II)I" } : Jvm.MethodName)), (Jvm.Cond.selects "PlumbCreedsModel" ({ cls := "PlumbCreedsModel", name := "wall", desc := "(II)I" } : Jvm.MethodName) ({ cls := "PlumbCreedsModel", name := "wall", desc := "(II)I" } : Jvm.MethodName)), (Jvm.Cond.code ({ cls := "PlumbCreedsModel", name := "wall", desc := "(II)I" } : Jvm.MethodName) prog_8_method_30_code (3 : Nat) (Option.some Jvm.ClassFile.FieldType.int)), (Jvm.Cond.methodLink "PlumbCreedsLaw" (74 : Nat) ({ cls := "PlumbCreedsModel", name := "fell", desc := "(I)I" } : Jvm.MethodName)), (Jvm.Cond.instanceMethod ({ cls := "PlumbCreedsModel", name := "fell", desc := "(I)I" } : Jvm.MethodName)), (Jvm.Cond.selects "PlumbCreedsModel" ({ cls := "PlumbCreedsModel", name := "fell", desc := "(I)I" } : Jvm.MethodName) ({ cls := "PlumbCreedsModel", name := "fell", desc := "(I)I" } : Jvm.MethodName)), (Jvm.Cond.code ({ cls := "PlumbCreedsModel", name := "fell", desc := "(I)I" } : Jvm.MethodName) prog_8_method_31_code (2 : Nat) (Option.some Jvm.ClassFile.FieldType.int)), (Jvm.Cond.methodLink "PlumbCreedsLaw" (78 : Nat) ({ cls := "PlumbCreedsModel", name := "bears", desc := "(I)I" } : Jvm.MethodName)), (Jvm.Cond.instanceMethod ({ cls := "PlumbCreedsModel", name := "bears", desc := "(I)I" } : Jvm.MethodName)), (Jvm.Cond.selects "PlumbCreedsModel" ({ cls := "PlumbCreedsModel", name := "bears", desc := "(I)I" } : Jvm.MethodName) ({ cls := "PlumbCreedsModel", name := "bears", desc := "(I)I" } : Jvm.MethodName)), (Jvm.Cond.code ({ cls := "PlumbCreedsModel", name := "bears", desc := "(I)I" } : Jvm.MethodName) prog_8_method_32_code (4 : Nat) (Option.some Jvm.ClassFile.FieldType.int)), (Jvm.Cond.methodLink "PlumbCreedsLaw" (82 : Nat) ({ cls := "PlumbCreedsModel", name := "all", desc := "(II)I" } : Jvm.MethodName)), (Jvm.Cond.instanceMethod ({ cls := "PlumbCreedsModel", name := "all", desc := "(II)I" } : Jvm.MethodName)), (Jvm.Cond.selects "PlumbCreedsModel" ({ cls := "PlumbCreedsModel", name := "all", desc := "(II)I" } : Jvm.MethodName) ({ cls := "PlumbCreedsModel", name := "all", desc := "(II)I" } : Jvm.MethodName)), (Jvm.Cond.code ({ cls := "PlumbCreedsModel", name := "all", desc := "(II)I" } : Jvm.MethodName) prog_8_method_35_code (6 : Nat) (Option.some Jvm.ClassFile.FieldType.int)), (Jvm.Cond.methodLink "PlumbCreedsModel" (135 : Nat) ({ cls := "PlumbCreedsModel", name := "areThere", desc := "(I)Z" } : Jvm.MethodName)), (Jvm.Cond.privateMethod ({ cls := "PlumbCreedsModel", name := "areThere", desc := "(I)Z" } : Jvm.MethodName)), (Jvm.Cond.instanceMethod ({ cls := "PlumbCreedsModel", name := "areThere", desc := "(I)Z" } : Jvm.MethodName)), (Jvm.Cond.code ({ cls := "PlumbCreedsModel", name := "areThere", desc := "(I)Z" } : Jvm.MethodName) prog_8_method_33_code (2 : Nat) (Option.some Jvm.ClassFile.FieldType.boolean)), (Jvm.Cond.methodLink "PlumbCreedsModel" (138 : Nat) ({ cls := "PlumbCreedsModel", name := "bearsAll", desc := "(II)Z" } : Jvm.MethodName)), (Jvm.Cond.privateMethod ({ cls := "PlumbCreedsModel", name := "bearsAll", desc := "(II)Z" } : Jvm.MethodName))]
def am_c26 : List Cond := [(Jvm.Cond.instanceMethod ({ cls := "PlumbCreedsModel", name := "bearsAll", desc := "(II)Z" } : Jvm.MethodName)), (Jvm.Cond.code ({ cls := "PlumbCreedsModel", name := "bearsAll", desc := "(II)Z" } : Jvm.MethodName) prog_8_method_34_code (5 : Nat) (Option.some Jvm.ClassFile.FieldType.boolean)), (Jvm.Cond.methodLink "PlumbCreedsLaw" (86 : Nat) ({ cls := "PlumbCreedsModel", name := "wedges", desc := "(III)I" } : Jvm.MethodName)), (Jvm.Cond.instanceMethod ({ cls := "PlumbCreedsModel", name := "wedges", desc := "(III)I" } : Jvm.MethodName)), (Jvm.Cond.selects "PlumbCreedsModel" ({ cls := "PlumbCreedsModel", name := "wedges", desc := "(III)I" } : Jvm.MethodName) ({ cls := "PlumbCreedsModel", name := "wedges", desc := "(III)I" } : Jvm.MethodName)), (Jvm.Cond.code ({ cls := "PlumbCreedsModel", name := "wedges", desc := "(III)I" } : Jvm.MethodName) prog_8_method_36_code (9 : Nat) (Option.some Jvm.ClassFile.FieldType.int)), (Jvm.Cond.constant "PlumbCreedsModel" (141 : Nat) (1000000 : Int32)), (Jvm.Cond.methodLink "PlumbCreedsLaw" (90 : Nat) ({ cls := "PlumbCreedsModel", name := "meet", desc := "(IIII)I" } : Jvm.MethodName)), (Jvm.Cond.instanceMethod ({ cls := "PlumbCreedsModel", name := "meet", desc := "(IIII)I" } : Jvm.MethodName)), (Jvm.Cond.selects "PlumbCreedsModel" ({ cls := "PlumbCreedsModel", name := "meet", desc := "(IIII)I" } : Jvm.MethodName) ({ cls := "PlumbCreedsModel", name := "meet", desc := "(IIII)I" } : Jvm.MethodName)), (Jvm.Cond.code ({ cls := "PlumbCreedsModel", name := "meet", desc := "(IIII)I" } : Jvm.MethodName) prog_8_method_37_code (9 : Nat) (Option.some Jvm.ClassFile.FieldType.int)), (Jvm.Cond.methodLink "PlumbCreedsLaw" (94 : Nat) ({ cls := "PlumbCreedsModel", name := "ways", desc := "(IIII)I" } : Jvm.MethodName)), (Jvm.Cond.instanceMethod ({ cls := "PlumbCreedsModel", name := "ways", desc := "(IIII)I" } : Jvm.MethodName)), (Jvm.Cond.selects "PlumbCreedsModel" ({ cls := "PlumbCreedsModel", name := "ways", desc := "(IIII)I" } : Jvm.MethodName) ({ cls := "PlumbCreedsModel", name := "ways", desc := "(IIII)I" } : Jvm.MethodName)), (Jvm.Cond.code ({ cls := "PlumbCreedsModel", name := "ways", desc := "(IIII)I" } : Jvm.MethodName) prog_8_method_39_code (8 : Nat) (Option.some Jvm.ClassFile.FieldType.int)), (Jvm.Cond.methodLink "PlumbCreedsModel" (142 : Nat) ({ cls := "PlumbCreedsModel", name := "layFar", desc := "(II)V" } : Jvm.MethodName)), (Jvm.Cond.privateMethod ({ cls := "PlumbCreedsModel", name := "layFar", desc := "(II)V" } : Jvm.MethodName)), (Jvm.Cond.instanceMethod ({ cls := "PlumbCreedsModel", name := "layFar", desc := "(II)V" } : Jvm.MethodName)), (Jvm.Cond.code ({ cls := "PlumbCreedsModel", name := "layFar", desc := "(II)V" } : Jvm.MethodName) prog_8_method_38_code (7 : Nat) (Option.none : Option Jvm.ClassFile.FieldType)), (Jvm.Cond.methodLink "PlumbCreedsLaw" (98 : Nat) ({ cls := "PlumbCreedsModel", name := "reach", desc := "(II)I" } : Jvm.MethodName)), (Jvm.Cond.instanceMethod ({ cls := "PlumbCreedsModel", name := "reach", desc := "(II)I" } : Jvm.MethodName)), (Jvm.Cond.selects "PlumbCreedsModel" ({ cls := "PlumbCreedsModel", name := "reach", desc := "(II)I" } : Jvm.MethodName) ({ cls := "PlumbCreedsModel", name := "reach", desc := "(II)I" } : Jvm.MethodName)), (Jvm.Cond.code ({ cls := "PlumbCreedsModel", name := "reach", desc := "(II)I" } : Jvm.MethodName) prog_8_method_40_code (5 : Nat) (Option.some Jvm.ClassFile.FieldType.int)), (Jvm.Cond.methodLink "PlumbCreedsLaw" (102 : Nat) ({ cls := "PlumbCreedsModel", name := "seen", desc := "(II)I" } : Jvm.MethodName)), (Jvm.Cond.instanceMethod ({ cls := "PlumbCreedsModel", name := "seen", desc := "(II)I" } : Jvm.MethodName)), (Jvm.Cond.selects "PlumbCreedsModel" ({ cls := "PlumbCreedsModel", name := "seen", desc := "(II)I" } : Jvm.MethodName) ({ cls := "PlumbCreedsModel", name := "seen", desc := "(II)I" } : Jvm.MethodName)), (Jvm.Cond.code ({ cls := "PlumbCreedsModel", name := "seen", desc := "(II)I" } : Jvm.MethodName) prog_8_method_41_code (3 : Nat) (Option.some Jvm.ClassFile.FieldType.int)), (Jvm.Cond.methodLink "PlumbCreedsLaw" (106 : Nat) ({ cls := "PlumbCreedsModel", name := "forget", desc := "()I" } : Jvm.MethodName)), (Jvm.Cond.instanceMethod ({ cls := "PlumbCreedsModel", name := "forget", desc := "()I" } : Jvm.MethodName)), (Jvm.Cond.selects "PlumbCreedsModel" ({ cls := "PlumbCreedsModel", name := "forget", desc := "()I" } : Jvm.MethodName) ({ cls := "PlumbCreedsModel", name := "forget", desc := "()I" } : Jvm.MethodName)), (Jvm.Cond.code ({ cls := "PlumbCreedsModel", name := "forget", desc := "()I" } : Jvm.MethodName) prog_8_method_42_code (2 : Nat) (Option.some Jvm.ClassFile.FieldType.int)), (Jvm.Cond.methodLink "PlumbCreedsLaw" (110 : Nat) ({ cls := "PlumbCreedsModel", name := "downs", desc := "(I)I" } : Jvm.MethodName))]
def am_c27 : List Cond := [(Jvm.Cond.instanceMethod ({ cls := "PlumbCreedsModel", name := "downs", desc := "(I)I" } : Jvm.MethodName)), (Jvm.Cond.selects "PlumbCreedsModel" ({ cls := "PlumbCreedsModel", name := "downs", desc := "(I)I" } : Jvm.MethodName) ({ cls := "PlumbCreedsModel", name := "downs", desc := "(I)I" } : Jvm.MethodName)), (Jvm.Cond.code ({ cls := "PlumbCreedsModel", name := "downs", desc := "(I)I" } : Jvm.MethodName) prog_8_method_45_code (4 : Nat) (Option.some Jvm.ClassFile.FieldType.int)), (Jvm.Cond.methodLink "PlumbCreedsModel" (152 : Nat) ({ cls := "PlumbCreedsModel", name := "fits", desc := "(I)Z" } : Jvm.MethodName)), (Jvm.Cond.privateMethod ({ cls := "PlumbCreedsModel", name := "fits", desc := "(I)Z" } : Jvm.MethodName)), (Jvm.Cond.instanceMethod ({ cls := "PlumbCreedsModel", name := "fits", desc := "(I)Z" } : Jvm.MethodName)), (Jvm.Cond.code ({ cls := "PlumbCreedsModel", name := "fits", desc := "(I)Z" } : Jvm.MethodName) prog_8_method_44_code (4 : Nat) (Option.some Jvm.ClassFile.FieldType.boolean)), (Jvm.Cond.methodLink "PlumbCreedsModel" (149 : Nat) ({ cls := "PlumbCreedsModel", name := "howIs", desc := "(II)I" } : Jvm.MethodName)), (Jvm.Cond.static ({ cls := "PlumbCreedsModel", name := "howIs", desc := "(II)I" } : Jvm.MethodName)), (Jvm.Cond.code ({ cls := "PlumbCreedsModel", name := "howIs", desc := "(II)I" } : Jvm.MethodName) prog_8_method_43_code (2 : Nat) (Option.some Jvm.ClassFile.FieldType.int)), (Jvm.Cond.methodLink "PlumbCreedsLaw" (114 : Nat) ({ cls := "PlumbCreedsModel", name := "next", desc := "(I)I" } : Jvm.MethodName)), (Jvm.Cond.instanceMethod ({ cls := "PlumbCreedsModel", name := "next", desc := "(I)I" } : Jvm.MethodName)), (Jvm.Cond.selects "PlumbCreedsModel" ({ cls := "PlumbCreedsModel", name := "next", desc := "(I)I" } : Jvm.MethodName) ({ cls := "PlumbCreedsModel", name := "next", desc := "(I)I" } : Jvm.MethodName)), (Jvm.Cond.code ({ cls := "PlumbCreedsModel", name := "next", desc := "(I)I" } : Jvm.MethodName) prog_8_method_46_code (7 : Nat) (Option.some Jvm.ClassFile.FieldType.int)), (Jvm.Cond.methodLink "PlumbCreedsLaw" (118 : Nat) ({ cls := "PlumbCreedsModel", name := "settle", desc := "(II)I" } : Jvm.MethodName)), (Jvm.Cond.instanceMethod ({ cls := "PlumbCreedsModel", name := "settle", desc := "(II)I" } : Jvm.MethodName)), (Jvm.Cond.selects "PlumbCreedsModel" ({ cls := "PlumbCreedsModel", name := "settle", desc := "(II)I" } : Jvm.MethodName) ({ cls := "PlumbCreedsModel", name := "settle", desc := "(II)I" } : Jvm.MethodName)), (Jvm.Cond.code ({ cls := "PlumbCreedsModel", name := "settle", desc := "(II)I" } : Jvm.MethodName) prog_8_method_50_code (5 : Nat) (Option.some Jvm.ClassFile.FieldType.int)), (Jvm.Cond.methodLink "PlumbCreedsModel" (158 : Nat) ({ cls := "PlumbCreedsModel", name := "creedsNow", desc := "()I" } : Jvm.MethodName)), (Jvm.Cond.privateMethod ({ cls := "PlumbCreedsModel", name := "creedsNow", desc := "()I" } : Jvm.MethodName)), (Jvm.Cond.instanceMethod ({ cls := "PlumbCreedsModel", name := "creedsNow", desc := "()I" } : Jvm.MethodName)), (Jvm.Cond.code ({ cls := "PlumbCreedsModel", name := "creedsNow", desc := "()I" } : Jvm.MethodName) prog_8_method_47_code (3 : Nat) (Option.some Jvm.ClassFile.FieldType.int)), (Jvm.Cond.methodLink "PlumbCreedsModel" (161 : Nat) ({ cls := "PlumbCreedsModel", name := "yearOn", desc := "(I)I" } : Jvm.MethodName)), (Jvm.Cond.privateMethod ({ cls := "PlumbCreedsModel", name := "yearOn", desc := "(I)I" } : Jvm.MethodName)), (Jvm.Cond.instanceMethod ({ cls := "PlumbCreedsModel", name := "yearOn", desc := "(I)I" } : Jvm.MethodName)), (Jvm.Cond.code ({ cls := "PlumbCreedsModel", name := "yearOn", desc := "(I)I" } : Jvm.MethodName) prog_8_method_49_code (11 : Nat) (Option.some Jvm.ClassFile.FieldType.int)), (Jvm.Cond.methodLink "PlumbCreedsModel" (155 : Nat) ({ cls := "PlumbCreedsModel", name := "creedIn", desc := "(II)I" } : Jvm.MethodName)), (Jvm.Cond.static ({ cls := "PlumbCreedsModel", name := "creedIn", desc := "(II)I" } : Jvm.MethodName)), (Jvm.Cond.code ({ cls := "PlumbCreedsModel", name := "creedIn", desc := "(II)I" } : Jvm.MethodName) prog_8_method_48_code (4 : Nat) (Option.some Jvm.ClassFile.FieldType.int)), (Jvm.Cond.methodLink "PlumbCreedsLaw" (122 : Nat) ({ cls := "PlumbCreedsModel", name := "again", desc := "(I)I" } : Jvm.MethodName)), (Jvm.Cond.instanceMethod ({ cls := "PlumbCreedsModel", name := "again", desc := "(I)I" } : Jvm.MethodName)), (Jvm.Cond.selects "PlumbCreedsModel" ({ cls := "PlumbCreedsModel", name := "again", desc := "(I)I" } : Jvm.MethodName) ({ cls := "PlumbCreedsModel", name := "again", desc := "(I)I" } : Jvm.MethodName))]
def am_c28 : List Cond := [(Jvm.Cond.code ({ cls := "PlumbCreedsModel", name := "again", desc := "(I)I" } : Jvm.MethodName) prog_8_method_51_code (4 : Nat) (Option.some Jvm.ClassFile.FieldType.int)), (Jvm.Cond.methodLink "PlumbCreedsLaw" (127 : Nat) ({ cls := "PlumbCreedsModel", name := "climb", desc := "(IIIIII)J" } : Jvm.MethodName)), (Jvm.Cond.instanceMethod ({ cls := "PlumbCreedsModel", name := "climb", desc := "(IIIIII)J" } : Jvm.MethodName)), (Jvm.Cond.selects "PlumbCreedsModel" ({ cls := "PlumbCreedsModel", name := "climb", desc := "(IIIIII)J" } : Jvm.MethodName) ({ cls := "PlumbCreedsModel", name := "climb", desc := "(IIIIII)J" } : Jvm.MethodName)), (Jvm.Cond.code ({ cls := "PlumbCreedsModel", name := "climb", desc := "(IIIIII)J" } : Jvm.MethodName) prog_8_method_53_code (17 : Nat) (Option.some Jvm.ClassFile.FieldType.long)), (Jvm.Cond.constantLong "PlumbCreedsModel" (164 : Nat) (-1000000000000000002 : Int64)), (Jvm.Cond.constantLong "PlumbCreedsModel" (166 : Nat) (10 : Int64)), (Jvm.Cond.methodLink "PlumbCreedsModel" (168 : Nat) ({ cls := "PlumbCreedsModel", name := "part", desc := "(JJI)J" } : Jvm.MethodName)), (Jvm.Cond.static ({ cls := "PlumbCreedsModel", name := "part", desc := "(JJI)J" } : Jvm.MethodName)), (Jvm.Cond.code ({ cls := "PlumbCreedsModel", name := "part", desc := "(JJI)J" } : Jvm.MethodName) prog_8_method_52_code (11 : Nat) (Option.some Jvm.ClassFile.FieldType.long)), (Jvm.Cond.methodLink "PlumbCreedsLaw" (131 : Nat) ({ cls := "PlumbCreedsModel", name := "book", desc := "(III)I" } : Jvm.MethodName)), (Jvm.Cond.instanceMethod ({ cls := "PlumbCreedsModel", name := "book", desc := "(III)I" } : Jvm.MethodName)), (Jvm.Cond.selects "PlumbCreedsModel" ({ cls := "PlumbCreedsModel", name := "book", desc := "(III)I" } : Jvm.MethodName) ({ cls := "PlumbCreedsModel", name := "book", desc := "(III)I" } : Jvm.MethodName)), (Jvm.Cond.code ({ cls := "PlumbCreedsModel", name := "book", desc := "(III)I" } : Jvm.MethodName) prog_8_method_54_code (8 : Nat) (Option.some Jvm.ClassFile.FieldType.int)), (Jvm.Cond.constant "PlumbCreedsModel" (172 : Nat) (65537 : Int32)), (Jvm.Cond.methodLink "PlumbCreedsLaw" (135 : Nat) ({ cls := "PlumbCreedsModel", name := "image", desc := "(I)I" } : Jvm.MethodName)), (Jvm.Cond.instanceMethod ({ cls := "PlumbCreedsModel", name := "image", desc := "(I)I" } : Jvm.MethodName)), (Jvm.Cond.selects "PlumbCreedsModel" ({ cls := "PlumbCreedsModel", name := "image", desc := "(I)I" } : Jvm.MethodName) ({ cls := "PlumbCreedsModel", name := "image", desc := "(I)I" } : Jvm.MethodName)), (Jvm.Cond.code ({ cls := "PlumbCreedsModel", name := "image", desc := "(I)I" } : Jvm.MethodName) prog_8_method_55_code (4 : Nat) (Option.some Jvm.ClassFile.FieldType.int)), (Jvm.Cond.methodLink "PlumbCreedsLaw" (139 : Nat) ({ cls := "PlumbCreedsModel", name := "restore", desc := "(I)I" } : Jvm.MethodName)), (Jvm.Cond.instanceMethod ({ cls := "PlumbCreedsModel", name := "restore", desc := "(I)I" } : Jvm.MethodName)), (Jvm.Cond.selects "PlumbCreedsModel" ({ cls := "PlumbCreedsModel", name := "restore", desc := "(I)I" } : Jvm.MethodName) ({ cls := "PlumbCreedsModel", name := "restore", desc := "(I)I" } : Jvm.MethodName)), (Jvm.Cond.code ({ cls := "PlumbCreedsModel", name := "restore", desc := "(I)I" } : Jvm.MethodName) prog_8_method_56_code (4 : Nat) (Option.some Jvm.ClassFile.FieldType.int)), (Jvm.Cond.methodLink "PlumbCreedsLaw" (143 : Nat) ({ cls := "PlumbCreedsModel", name := "told", desc := "(I)I" } : Jvm.MethodName)), (Jvm.Cond.instanceMethod ({ cls := "PlumbCreedsModel", name := "told", desc := "(I)I" } : Jvm.MethodName)), (Jvm.Cond.selects "PlumbCreedsModel" ({ cls := "PlumbCreedsModel", name := "told", desc := "(I)I" } : Jvm.MethodName) ({ cls := "PlumbCreedsModel", name := "told", desc := "(I)I" } : Jvm.MethodName)), (Jvm.Cond.code ({ cls := "PlumbCreedsModel", name := "told", desc := "(I)I" } : Jvm.MethodName) prog_8_method_57_code (4 : Nat) (Option.some Jvm.ClassFile.FieldType.int))]
def am_cs : List (List Cond) := [am_c0, am_c1, am_c2, am_c3, am_c4, am_c5, am_c6, am_c7, am_c8, am_c9, am_c10, am_c11, am_c12, am_c13, am_c14, am_c15, am_c16, am_c17, am_c18, am_c19, am_c20, am_c21, am_c22, am_c23, am_c24, am_c25, am_c26, am_c27, am_c28]
set_option maxRecDepth 100000 in
theorem am_tbl_eq : lw_tbl = am_cs.flatten := rfl
/-- a word by its place -/
def am_tb (t : Nat) : Option Cond := (am_cs.getD (t / 32) [])[t % 32]?
theorem am_tb_in {t : Nat} {w : Cond} (h : am_tb t = some w) : w ∈ lw_tbl := by
  rw [am_tbl_eq]
  unfold am_tb at h
  have h1 := List.mem_of_getElem? h
  cases hc : am_cs[t / 32]? with
  | none => rw [List.getD_eq_getElem?_getD, hc] at h1; cases h1
  | some c =>
    rw [List.getD_eq_getElem?_getD, hc] at h1
    exact List.mem_flatten.mpr ⟨c, List.mem_of_getElem? hc, h1⟩
theorem am_TB_of {w : Cond} (i : Nat) (h : am_tb i = some w) (g : goodWord w = true) : w ∈ am_TB := List.mem_filter.mpr ⟨am_tb_in h, g⟩
def am_R (c : Nat) : String := match c with
  | 0 => RX0
  | 1 => RX1
  | 2 => RX2
  | 3 => RX3
  | 4 => RX4
  | 5 => RX5
  | 6 => RX6
  | 7 => RJ6
  | 8 => RJ9
  | _ => RL
def am_T (c : Nat) : u_T := match c with
  | 0 => TX0
  | 1 => TX1
  | 2 => TX2
  | 3 => TX3
  | 4 => TX4
  | 5 => TX5
  | _ => TX6
theorem am_in_ws {C : String} {T : u_T} {N : Nat} (h : ∀ k, k < N → u_lay C T k ∈ am_TB) : ∀ w ∈ u_ws C T N, w ∈ am_TB := by
  intro w hw
  obtain ⟨k, hk, rfl⟩ := List.mem_map.mp hw
  exact h k (List.mem_range.mp hk)
theorem am_lay0 : ∀ k, k < 2 → u_lay RX0 TX0 k ∈ am_TB := fun k hk => match k, hk with
  | 0, _ => am_TB_of 153 rfl rfl
  | 1, _ => am_TB_of 155 rfl rfl
  | n + 2, h => absurd h (by omega)
theorem am_lay1 : ∀ k, k < 1 → u_lay RX1 TX1 k ∈ am_TB := fun k hk => match k, hk with
  | 0, _ => am_TB_of 66 rfl rfl
  | n + 1, h => absurd h (by omega)
theorem am_lay2 : ∀ k, k < 5 → u_lay RX2 TX2 k ∈ am_TB := fun k hk => match k, hk with
  | 0, _ => am_TB_of 211 rfl rfl
  | 1, _ => am_TB_of 213 rfl rfl
  | 2, _ => am_TB_of 215 rfl rfl
  | 3, _ => am_TB_of 217 rfl rfl
  | 4, _ => am_TB_of 219 rfl rfl
  | n + 5, h => absurd h (by omega)
theorem am_lay3 : ∀ k, k < 7 → u_lay RX3 TX3 k ∈ am_TB := fun k hk => match k, hk with
  | 0, _ => am_TB_of 180 rfl rfl
  | 1, _ => am_TB_of 182 rfl rfl
  | 2, _ => am_TB_of 184 rfl rfl
  | 3, _ => am_TB_of 186 rfl rfl
  | 4, _ => am_TB_of 188 rfl rfl
  | 5, _ => am_TB_of 190 rfl rfl
  | 6, _ => am_TB_of 192 rfl rfl
  | n + 7, h => absurd h (by omega)
theorem am_lay4 : ∀ k, k < 16 → u_lay RX4 TX4 k ∈ am_TB := fun k hk => match k, hk with
  | 0, _ => am_TB_of 108 rfl rfl
  | 1, _ => am_TB_of 110 rfl rfl
  | 2, _ => am_TB_of 112 rfl rfl
  | 3, _ => am_TB_of 114 rfl rfl
  | 4, _ => am_TB_of 116 rfl rfl
  | 5, _ => am_TB_of 118 rfl rfl
  | 6, _ => am_TB_of 120 rfl rfl
  | 7, _ => am_TB_of 122 rfl rfl
  | 8, _ => am_TB_of 124 rfl rfl
  | 9, _ => am_TB_of 126 rfl rfl
  | 10, _ => am_TB_of 128 rfl rfl
  | 11, _ => am_TB_of 130 rfl rfl
  | 12, _ => am_TB_of 132 rfl rfl
  | 13, _ => am_TB_of 134 rfl rfl
  | 14, _ => am_TB_of 136 rfl rfl
  | 15, _ => am_TB_of 138 rfl rfl
  | n + 16, h => absurd h (by omega)
theorem am_lay5 : ∀ k, k < 7 → u_lay RX5 TX5 k ∈ am_TB := fun k hk => match k, hk with
  | 0, _ => am_TB_of 229 rfl rfl
  | 1, _ => am_TB_of 231 rfl rfl
  | 2, _ => am_TB_of 233 rfl rfl
  | 3, _ => am_TB_of 235 rfl rfl
  | 4, _ => am_TB_of 237 rfl rfl
  | 5, _ => am_TB_of 239 rfl rfl
  | 6, _ => am_TB_of 241 rfl rfl
  | n + 7, h => absurd h (by omega)
theorem am_lay6 : ∀ k, k < 24 → u_lay RX6 TX6 k ∈ am_TB := fun k hk => match k, hk with
  | 0, _ => am_TB_of 653 rfl rfl
  | 1, _ => am_TB_of 655 rfl rfl
  | 2, _ => am_TB_of 657 rfl rfl
  | 3, _ => am_TB_of 659 rfl rfl
  | 4, _ => am_TB_of 661 rfl rfl
  | 5, _ => am_TB_of 663 rfl rfl
  | 6, _ => am_TB_of 665 rfl rfl
  | 7, _ => am_TB_of 667 rfl rfl
  | 8, _ => am_TB_of 669 rfl rfl
  | 9, _ => am_TB_of 671 rfl rfl
  | 10, _ => am_TB_of 673 rfl rfl
  | 11, _ => am_TB_of 675 rfl rfl
  | 12, _ => am_TB_of 677 rfl rfl
  | 13, _ => am_TB_of 679 rfl rfl
  | 14, _ => am_TB_of 681 rfl rfl
  | 15, _ => am_TB_of 683 rfl rfl
  | 16, _ => am_TB_of 685 rfl rfl
  | 17, _ => am_TB_of 687 rfl rfl
  | 18, _ => am_TB_of 689 rfl rfl
  | 19, _ => am_TB_of 691 rfl rfl
  | 20, _ => am_TB_of 693 rfl rfl
  | 21, _ => am_TB_of 695 rfl rfl
  | 22, _ => am_TB_of 697 rfl rfl
  | 23, _ => am_TB_of 699 rfl rfl
  | n + 24, h => absurd h (by omega)
theorem am_cl_in (c : Nat) (hc : c < 7) : ∀ w ∈ u_ws (am_R c) (am_T c) (am_N c), w ∈ am_TB := by
  match c, hc with
  | 0, _ => exact am_in_ws am_lay0
  | 1, _ => exact am_in_ws am_lay1
  | 2, _ => exact am_in_ws am_lay2
  | 3, _ => exact am_in_ws am_lay3
  | 4, _ => exact am_in_ws am_lay4
  | 5, _ => exact am_in_ws am_lay5
  | 6, _ => exact am_in_ws am_lay6
  | n + 7, h => exact absurd h (by omega)
theorem am_cl_ty (c : Nat) (hc : c < 7) : ∀ k, k < am_N c → parseFieldDescriptor (am_T c k).2.2.1 = some (am_ty c k) := by
  match c, hc with
  | 0, _ => exact tyX0_ok
  | 1, _ => exact tyX1_ok
  | 2, _ => exact tyX2_ok
  | 3, _ => exact tyX3_ok
  | 4, _ => exact tyX4_ok
  | 5, _ => exact tyX5_ok
  | 6, _ => exact tyX6_ok
  | n + 7, h => exact absurd h (by omega)
theorem am_cl_nm (c : Nat) (hc : c < 7) : ∀ a, a < am_N c → ∀ b, b < am_N c → a ≠ b → (am_T c a).2.1 ≠ (am_T c b).2.1 := by
  match c, hc with
  | 0, _ => exact nmX0
  | 1, _ => exact nmX1
  | 2, _ => exact nmX2
  | 3, _ => exact nmX3
  | 4, _ => exact nmX4
  | 5, _ => exact nmX5
  | 6, _ => exact nmX6
  | n + 7, h => exact absurd h (by omega)
theorem am_cl_at (c : Nat) (hc : c < 7) : vwCl[c]? = some (am_R c, am_T c, am_N c) := by
  match c, hc with
  | 0, _ => rfl
  | 1, _ => rfl
  | 2, _ => rfl
  | 3, _ => rfl
  | 4, _ => rfl
  | 5, _ => rfl
  | 6, _ => rfl
  | n + 7, h => exact absurd h (by omega)
theorem am_cl_new (c : Nat) (hc : c < 7) : Cond.instantiable (am_R c) (am_N c) ∈ am_TB ∧ Cond.initialized (am_R c) ∈ am_TB := by
  match c, hc with
  | 0, _ => exact ⟨am_TB_of 142 rfl rfl, am_TB_of 37 rfl rfl⟩
  | 1, _ => exact ⟨am_TB_of 57 rfl rfl, am_TB_of 35 rfl rfl⟩
  | 2, _ => exact ⟨am_TB_of 196 rfl rfl, am_TB_of 39 rfl rfl⟩
  | 3, _ => exact ⟨am_TB_of 159 rfl rfl, am_TB_of 38 rfl rfl⟩
  | 4, _ => exact ⟨am_TB_of 51 rfl rfl, am_TB_of 34 rfl rfl⟩
  | 5, _ => exact ⟨am_TB_of 43 rfl rfl, am_TB_of 33 rfl rfl⟩
  | 6, _ => exact ⟨am_TB_of 624 rfl rfl, am_TB_of 40 rfl rfl⟩
  | n + 7, h => exact absurd h (by omega)
/-- a callee: 0 static, 1 of an object, 2 a constructor -/
abbrev am_kd (K : AMinfo) : Nat := K.2.2.2.2.2.2.1
/-- the word of a call -/
def am_mw (M : AMinfo) (idx a : Nat) (v : Value) : Option Cond :=
  bif Nat.beq a 999 then some (.methodLink (am_R (am_cls M)) idx objectInit) else bif Nat.beq a 997 then some (.methodLink (am_R (am_cls M)) idx Lib.Math.abs.name) else bif Nat.beq a 996 then some (.methodLink (am_R (am_cls M)) idx Lib.Math.max.name) else bif Nat.beq a 995 then some (.methodLink (am_R (am_cls M)) idx Lib.MathLoose.max_long.x) else match v with
    | .int 0 => some (.methodLink (am_R (am_cls M)) idx (am_y (am_mg a)))
    | _ => some (.methodLinkNest (am_R (am_cls M)) idx (am_y (am_mg a)) RX5)
/-- what a call's row asks of the callee -/
def am_okc (b : Nat) (v : Value) (K : AMinfo) : Bool :=
  (!(am_lw K) && Nat.beq b (am_na K)) && (decide (v = .int 0) || decide (v = .int 1))
def am_ok (M : AMinfo) : AMrow → Bool
  | (pc, ins, len, a, b, v, tab, t) => decide (decode (am_by M) pc = .ok (ins, len)) && match ins with
    | .iconst n => decide (v = .int (Int32.ofInt n)) && Nat.beq len 1
    | .bipush n => decide (v = .int (Int8.ofInt n).toInt32) && Nat.beq len 2
    | .sipush n => decide (v = .int (Int16.ofInt n).toInt32) && Nat.beq len 3
    | .lconst n => decide (v = .long (Int64.ofNat (n : Nat))) && Nat.beq len 1
    | .ldc idx => (match v with
      | .int _ => true
      | _ => false) && Nat.beq len 2
    | .ldc_w idx => (match v with
      | .int _ => true
      | _ => false) && Nat.beq len 3
    | .ldc2_w idx => (match v with
      | .long _ => true
      | _ => false) && Nat.beq len 3
    | .iload i => Nat.beq a i && Nat.beq len 2
    | .lload i => Nat.beq a i && Nat.beq len 2
    | .iload_n i => Nat.beq a i && Nat.beq len 1
    | .lload_n i => Nat.beq a i && Nat.beq len 1
    | .aload_n i => Nat.beq a i && Nat.beq len 1
    | .istore i => Nat.beq a i && (Nat.blt a (am_nL M) && Nat.beq len 2)
    | .lstore i => Nat.beq a i && (Nat.blt (a + 1) (am_nL M) && Nat.beq len 2)
    | .istore_n i => Nat.beq a i && (Nat.blt a (am_nL M) && Nat.beq len 1)
    | .astore_n i => Nat.beq a i && (Nat.blt a (am_nL M) && Nat.beq len 1)
    | .iinc i n => Nat.beq a i && (Nat.blt a (am_nL M) && (decide (v = .int (Int32.ofInt n)) && Nat.beq len 3))
    | .iadd => Nat.beq len 1
    | .isub => Nat.beq len 1
    | .imul => Nat.beq len 1
    | .iand => Nat.beq len 1
    | .ior => Nat.beq len 1
    | .ixor => Nat.beq len 1
    | .ishl => Nat.beq len 1
    | .ishr => Nat.beq len 1
    | .iushr => Nat.beq len 1
    | .idiv => Nat.beq len 1
    | .irem => Nat.beq len 1
    | .ineg => Nat.beq len 1
    | .lmul => Nat.beq len 1
    | .ldiv => Nat.beq len 1
    | .lrem => Nat.beq len 1
    | .lcmp => Nat.beq len 1
    | .i2l => Nat.beq len 1
    | .dup => Nat.beq len 1
    | .dup2 => Nat.beq len 1
    | .pop => Nat.beq len 1
    | .ireturn => Nat.beq len 1
    | .lreturn => Nat.beq len 1
    | .areturn => Nat.beq len 1
    | .return_ => Nat.beq len 1
    | .arraylength => Nat.beq len 1
    | .iaload => Nat.beq len 1
    | .baload => Nat.beq len 1
    | .iastore => Nat.beq len 1
    | .bastore => Nat.beq len 1
    | .goto off => decide ((pc : Int) + off = (b : Int)) && Nat.beq len 3
    | .ifCond _ off => decide ((pc : Int) + off = (b : Int)) && Nat.beq len 3
    | .if_icmp _ off => decide ((pc : Int) + off = (b : Int)) && Nat.beq len 3
    | .tableswitch d lo hi offs => decide ((pc : Int) + d = (b : Int)) && (decide (hi = lo + (tab.length : Int) - 1) && (List.range tab.length).all (fun i => match tab[i]?, offs[i]? with
      | some q, some o => decide (q.1.toInt = lo + (i : Int)) && decide ((pc : Int) + o = (q.2 : Int))
      | _, _ => false))
    | .getfield idx => Nat.blt a 7 && (Nat.blt b (am_N a) && (Nat.beq len 3))
    | .putfield idx => Nat.blt a 7 && (Nat.blt b (am_N a) && ((Nat.beq len 3 && (!(am_T a b).2.2.2 || (decide ((am_y M).name = "<init>") && decide ((am_T a b).1 = am_R (am_cls M)))))))
    | .new idx => Nat.blt a 7 && Nat.beq len 3
    | .newarray .int => Nat.beq a 0 && Nat.beq len 2
    | .newarray .boolean => Nat.beq a 1 && Nat.beq len 2
    | .invokespecial _ => Nat.beq len 3 && (Nat.beq a 999 || (am_okc b v (am_mg a) && (Nat.beq (am_kd (am_mg a)) 2 && Nat.blt 0 b)))
    | .invokevirtual _ => Nat.beq len 3 && (am_okc b v (am_mg a) && (decide (v = .int 0) && (Nat.beq (am_kd (am_mg a)) 1 && Nat.blt 0 b)))
    | .invokestatic _ => Nat.beq len 3 && (Nat.blt 994 a || (am_okc b v (am_mg a) && Nat.beq (am_kd (am_mg a)) 0))
    | _ => false
/-- the word that a row stands on -/
def am_word (M : AMinfo) : AMrow → Option Cond
  | (_, ins, _, a, b, v, _, _) => match ins with
    | .ldc idx => (match v with
      | .int x => some (.constant (am_R (am_cls M)) idx x)
      | _ => none)
    | .ldc_w idx => (match v with
      | .int x => some (.constant (am_R (am_cls M)) idx x)
      | _ => none)
    | .ldc2_w idx => (match v with
      | .long x => some (.constantLong (am_R (am_cls M)) idx x)
      | _ => none)
    | .getfield idx => some (.fieldLink (am_R (am_cls M)) idx (am_T a b).1 (am_T a b).2.1 (am_T a b).2.2.1)
    | .putfield idx => some (.fieldLink (am_R (am_cls M)) idx (am_T a b).1 (am_T a b).2.1 (am_T a b).2.2.1)
    | .new idx => some (.classLink (am_R (am_cls M)) idx (am_R a))
    | .invokespecial idx => am_mw M idx a v
    | .invokevirtual idx => am_mw M idx a v
    | .invokestatic idx => am_mw M idx a v
    | _ => none
def am_okw (M : AMinfo) (r : AMrow) : Prop := match am_word M r with
  | none => True
  | some w => am_tb (r.2.2.2.2.2.2.2) = some w
/-- the same of all rows -/
def am_okws (M : AMinfo) : List AMrow → Prop
  | [] => True
  | r :: t => am_okw M r ∧ am_okws M t
theorem am_okws_mem {M : AMinfo} : ∀ {l : List AMrow}, am_okws M l → ∀ r ∈ l, am_okw M r
  | [], _, r, h => absurd h List.not_mem_nil
  | q :: t, h, r, hr => by
    rcases List.mem_cons.mp hr with rfl | hr
    · exact h.1
    · exact am_okws_mem h.2 r hr
theorem am_okws_app {M : AMinfo} : ∀ {a b : List AMrow}, am_okws M a → am_okws M b → am_okws M (a ++ b)
  | [], _, _, h => h
  | _ :: _, _, h, h2 => ⟨h.1, am_okws_app h.2 h2⟩
/-- what a method's own words say (not the law's) -/
def am_okm (K : AMinfo) : Prop := am_lw K = false → (am_tb (K.2.2.2.1) = some (.code (am_y K) (am_by K) (am_nL K) (am_rt K)) ∧ (am_tb (K.2.2.2.2.2.2.2.1) = some (.initialized (am_y K).cls) ∧ ((am_y K).cls = am_R (am_cls K) ∧ (plainName (am_y K).cls = true ∧ ((am_y K).cls ≠ "java/lang/invoke/MethodHandle" ∧ (am_y K).cls ≠ "java/lang/invoke/VarHandle"))))) ∧ match am_kd K with
  | 0 => am_tb (K.2.2.2.2.1) = some (.static (am_y K)) ∧ (parseMethodDescriptor (am_y K).desc).map (fun d => d.parameters.length) = some (am_na K)
  | 1 => am_tb (K.2.2.2.2.1) = some (.instanceMethod (am_y K)) ∧ (am_tb (K.2.2.2.2.2.1) = some (.selects (am_R (am_cls K)) (am_y K) (am_y K)) ∧ (parseMethodDescriptor (am_y K).desc).map (fun d => d.parameters.length) = some (am_na K - 1))
  | _ => am_tb (K.2.2.2.2.1) = some (.instanceMethod (am_y K)) ∧ ((am_y K).name = "<init>" ∧ (am_rt K = none ∧ (parseMethodDescriptor (am_y K).desc).map (fun d => d.parameters.length) = some (am_na K - 1)))
set_option maxRecDepth 100000 in
theorem am_new_w : (Cond.instanceMethod objectInit) ∈ am_TB ∧ (Cond.code objectInit ⟨#[0xb1]⟩ 1 none) ∈ am_TB ∧ Cond.arrayClass .int ∈ am_TB ∧ Cond.arrayClass .boolean ∈ am_TB := ⟨am_TB_of 48 rfl rfl, am_TB_of 49 rfl rfl, am_TB_of 69 rfl rfl, am_TB_of 702 rfl rfl⟩
set_option maxRecDepth 100000 in
theorem am_math_w : (Cond.initialized "java/lang/Math") ∈ am_TB ∧ ((Cond.static Lib.Math.abs.name) ∈ am_TB ∧ (Cond.code Lib.Math.abs.name Lib.Math.abs.code 1 (some .int)) ∈ am_TB) ∧ ((Cond.static Lib.Math.max.name) ∈ am_TB ∧ (Cond.code Lib.Math.max.name Lib.Math.max.code 2 (some .int)) ∈ am_TB) ∧ ((Cond.static Lib.MathLoose.max_long.x) ∈ am_TB ∧ (Cond.code Lib.MathLoose.max_long.x Lib.MathLoose.max_long.code 4 (some .long)) ∈ am_TB) := ⟨am_TB_of 36 rfl rfl, ⟨am_TB_of 410 rfl rfl, am_TB_of 411 rfl rfl⟩, ⟨am_TB_of 63 rfl rfl, am_TB_of 64 rfl rfl⟩, ⟨am_TB_of 567 rfl rfl, am_TB_of 568 rfl rfl⟩⟩
theorem am_all_app {α : Type} {f : α → Bool} {a b : List α} (ha : a.all f = true) (hb : b.all f = true) : (a ++ b).all f = true := by rw [List.all_append, ha, hb]; rfl
theorem am_ok0_X0_init : am_r0_X0_init.all (am_ok AM_X0_init) = true := by decide +kernel
set_option maxRecDepth 100000 in
theorem am_ow0_X0_init : am_okws AM_X0_init am_r0_X0_init := ⟨trivial, rfl, trivial, rfl, trivial, trivial, rfl, rfl, trivial, trivial, rfl, trivial, trivial⟩
set_option maxRecDepth 100000 in
theorem am_okr_X0_init : (am_rows AM_X0_init).all (am_ok AM_X0_init) = true ∧ (am_okws AM_X0_init (am_rows AM_X0_init) ∧ am_okm AM_X0_init) := ⟨am_ok0_X0_init, am_ow0_X0_init, (fun _ => ⟨⟨rfl, rfl, rfl, by decide +kernel, by decide +kernel, by decide +kernel⟩, rfl, rfl, rfl, by decide +kernel⟩)⟩
theorem am_ok0_X0_add : am_r0_X0_add.all (am_ok AM_X0_add) = true := by decide +kernel
set_option maxRecDepth 100000 in
theorem am_ow0_X0_add : am_okws AM_X0_add am_r0_X0_add := ⟨trivial, rfl, trivial, trivial, trivial, trivial, trivial, rfl, trivial, rfl, trivial, rfl, trivial, trivial, rfl, trivial, trivial, rfl, trivial, trivial, trivial⟩
set_option maxRecDepth 100000 in
theorem am_okr_X0_add : (am_rows AM_X0_add).all (am_ok AM_X0_add) = true ∧ (am_okws AM_X0_add (am_rows AM_X0_add) ∧ am_okm AM_X0_add) := ⟨am_ok0_X0_add, am_ow0_X0_add, (fun _ => ⟨⟨rfl, rfl, rfl, by decide +kernel, by decide +kernel, by decide +kernel⟩, rfl, rfl, by decide +kernel⟩)⟩
theorem am_ok0_X0_faultPlace : am_r0_X0_faultPlace.all (am_ok AM_X0_faultPlace) = true := by decide +kernel
set_option maxRecDepth 100000 in
theorem am_ow0_X0_faultPlace : am_okws AM_X0_faultPlace am_r0_X0_faultPlace := ⟨trivial, trivial, trivial, trivial, trivial, trivial, rfl, trivial, trivial, rfl, trivial, rfl, trivial, rfl, trivial, trivial, trivial, trivial, trivial, trivial, trivial, trivial, trivial, trivial, trivial, trivial, trivial, rfl, trivial, trivial⟩
set_option maxRecDepth 100000 in
theorem am_okr_X0_faultPlace : (am_rows AM_X0_faultPlace).all (am_ok AM_X0_faultPlace) = true ∧ (am_okws AM_X0_faultPlace (am_rows AM_X0_faultPlace) ∧ am_okm AM_X0_faultPlace) := ⟨am_ok0_X0_faultPlace, am_ow0_X0_faultPlace, (fun _ => ⟨⟨rfl, rfl, rfl, by decide +kernel, by decide +kernel, by decide +kernel⟩, rfl, rfl, by decide +kernel⟩)⟩
theorem am_ok0_X0_roomBehind : am_r0_X0_roomBehind.all (am_ok AM_X0_roomBehind) = true := by decide +kernel
set_option maxRecDepth 100000 in
theorem am_ow0_X0_roomBehind : am_okws AM_X0_roomBehind am_r0_X0_roomBehind := ⟨trivial, trivial, trivial, rfl, trivial, trivial, trivial, trivial, trivial, trivial, trivial, trivial, trivial, trivial, trivial, trivial, trivial, trivial, trivial, trivial, rfl, trivial, trivial, trivial, trivial, trivial, trivial, trivial, trivial, trivial, trivial, trivial, trivial, trivial, trivial, rfl, trivial, trivial, trivial, trivial, trivial, trivial⟩
set_option maxRecDepth 100000 in
theorem am_okr_X0_roomBehind : (am_rows AM_X0_roomBehind).all (am_ok AM_X0_roomBehind) = true ∧ (am_okws AM_X0_roomBehind (am_rows AM_X0_roomBehind) ∧ am_okm AM_X0_roomBehind) := ⟨am_ok0_X0_roomBehind, am_ow0_X0_roomBehind, (fun _ => ⟨⟨rfl, rfl, rfl, by decide +kernel, by decide +kernel, by decide +kernel⟩, rfl, by decide +kernel⟩)⟩
theorem am_ok0_X0_isOneSign : am_r0_X0_isOneSign.all (am_ok AM_X0_isOneSign) = true := by decide +kernel
set_option maxRecDepth 100000 in
theorem am_ow0_X0_isOneSign : am_okws AM_X0_isOneSign am_r0_X0_isOneSign := ⟨trivial, trivial, trivial, rfl, trivial, trivial⟩
set_option maxRecDepth 100000 in
theorem am_okr_X0_isOneSign : (am_rows AM_X0_isOneSign).all (am_ok AM_X0_isOneSign) = true ∧ (am_okws AM_X0_isOneSign (am_rows AM_X0_isOneSign) ∧ am_okm AM_X0_isOneSign) := ⟨am_ok0_X0_isOneSign, am_ow0_X0_isOneSign, (fun _ => ⟨⟨rfl, rfl, rfl, by decide +kernel, by decide +kernel, by decide +kernel⟩, rfl, by decide +kernel⟩)⟩
theorem am_ok0_X0_isCreedSign : am_r0_X0_isCreedSign.all (am_ok AM_X0_isCreedSign) = true := by decide +kernel
set_option maxRecDepth 100000 in
theorem am_ow0_X0_isCreedSign : am_okws AM_X0_isCreedSign am_r0_X0_isCreedSign := ⟨trivial, trivial, trivial, rfl, trivial, trivial⟩
set_option maxRecDepth 100000 in
theorem am_okr_X0_isCreedSign : (am_rows AM_X0_isCreedSign).all (am_ok AM_X0_isCreedSign) = true ∧ (am_okws AM_X0_isCreedSign (am_rows AM_X0_isCreedSign) ∧ am_okm AM_X0_isCreedSign) := ⟨am_ok0_X0_isCreedSign, am_ow0_X0_isCreedSign, (fun _ => ⟨⟨rfl, rfl, rfl, by decide +kernel, by decide +kernel, by decide +kernel⟩, rfl, by decide +kernel⟩)⟩
theorem am_ok0_X0_endsAct : am_r0_X0_endsAct.all (am_ok AM_X0_endsAct) = true := by decide +kernel
set_option maxRecDepth 100000 in
theorem am_ow0_X0_endsAct : am_okws AM_X0_endsAct am_r0_X0_endsAct := ⟨trivial, rfl, trivial, rfl, rfl, trivial, trivial, rfl, trivial, rfl, trivial, trivial, trivial, trivial, trivial, trivial, trivial⟩
set_option maxRecDepth 100000 in
theorem am_okr_X0_endsAct : (am_rows AM_X0_endsAct).all (am_ok AM_X0_endsAct) = true ∧ (am_okws AM_X0_endsAct (am_rows AM_X0_endsAct) ∧ am_okm AM_X0_endsAct) := ⟨am_ok0_X0_endsAct, am_ow0_X0_endsAct, (fun _ => ⟨⟨rfl, rfl, rfl, by decide +kernel, by decide +kernel, by decide +kernel⟩, rfl, rfl, by decide +kernel⟩)⟩
theorem am_ok0_X0_kindAt : am_r0_X0_kindAt.all (am_ok AM_X0_kindAt) = true := by decide +kernel
set_option maxRecDepth 100000 in
theorem am_ow0_X0_kindAt : am_okws AM_X0_kindAt am_r0_X0_kindAt := ⟨trivial, rfl, trivial, rfl, trivial, trivial, trivial, trivial, trivial, trivial, trivial, trivial, trivial, trivial, trivial, trivial, rfl, trivial, trivial, trivial, trivial, rfl, trivial, trivial, trivial, rfl, trivial, trivial, trivial, trivial, trivial, trivial, trivial⟩
set_option maxRecDepth 100000 in
theorem am_okr_X0_kindAt : (am_rows AM_X0_kindAt).all (am_ok AM_X0_kindAt) = true ∧ (am_okws AM_X0_kindAt (am_rows AM_X0_kindAt) ∧ am_okm AM_X0_kindAt) := ⟨am_ok0_X0_kindAt, am_ow0_X0_kindAt, (fun _ => ⟨⟨rfl, rfl, rfl, by decide +kernel, by decide +kernel, by decide +kernel⟩, rfl, rfl, by decide +kernel⟩)⟩
theorem am_ok0_X0_oneAt : am_r0_X0_oneAt.all (am_ok AM_X0_oneAt) = true := by decide +kernel
set_option maxRecDepth 100000 in
theorem am_ow0_X0_oneAt : am_okws AM_X0_oneAt am_r0_X0_oneAt := ⟨trivial, rfl, trivial, trivial, rfl, trivial, trivial, trivial, trivial, trivial, trivial, trivial, trivial, trivial, rfl, trivial, trivial, trivial, trivial⟩
set_option maxRecDepth 100000 in
theorem am_okr_X0_oneAt : (am_rows AM_X0_oneAt).all (am_ok AM_X0_oneAt) = true ∧ (am_okws AM_X0_oneAt (am_rows AM_X0_oneAt) ∧ am_okm AM_X0_oneAt) := ⟨am_ok0_X0_oneAt, am_ow0_X0_oneAt, (fun _ => ⟨⟨rfl, rfl, rfl, by decide +kernel, by decide +kernel, by decide +kernel⟩, rfl, rfl, by decide +kernel⟩)⟩
theorem am_ok0_X0_targetAt : am_r0_X0_targetAt.all (am_ok AM_X0_targetAt) = true := by decide +kernel
set_option maxRecDepth 100000 in
theorem am_ow0_X0_targetAt : am_okws AM_X0_targetAt am_r0_X0_targetAt := ⟨trivial, rfl, trivial, rfl, trivial, rfl, trivial, rfl, rfl, trivial, trivial, trivial, trivial, trivial, trivial, trivial⟩
set_option maxRecDepth 100000 in
theorem am_okr_X0_targetAt : (am_rows AM_X0_targetAt).all (am_ok AM_X0_targetAt) = true ∧ (am_okws AM_X0_targetAt (am_rows AM_X0_targetAt) ∧ am_okm AM_X0_targetAt) := ⟨am_ok0_X0_targetAt, am_ow0_X0_targetAt, (fun _ => ⟨⟨rfl, rfl, rfl, by decide +kernel, by decide +kernel, by decide +kernel⟩, rfl, rfl, by decide +kernel⟩)⟩
theorem am_ok0_X1_init : am_r0_X1_init.all (am_ok AM_X1_init) = true := by decide +kernel
set_option maxRecDepth 100000 in
theorem am_ow0_X1_init : am_okws AM_X1_init am_r0_X1_init := ⟨trivial, rfl, trivial, trivial, trivial, rfl, trivial, rfl, trivial, trivial⟩
set_option maxRecDepth 100000 in
theorem am_okr_X1_init : (am_rows AM_X1_init).all (am_ok AM_X1_init) = true ∧ (am_okws AM_X1_init (am_rows AM_X1_init) ∧ am_okm AM_X1_init) := ⟨am_ok0_X1_init, am_ow0_X1_init, (fun _ => ⟨⟨rfl, rfl, rfl, by decide +kernel, by decide +kernel, by decide +kernel⟩, rfl, rfl, rfl, by decide +kernel⟩)⟩
theorem am_ok0_X1_get : am_r0_X1_get.all (am_ok AM_X1_get) = true := by decide +kernel
set_option maxRecDepth 100000 in
theorem am_ow0_X1_get : am_okws AM_X1_get am_r0_X1_get := ⟨trivial, trivial, trivial, trivial, rfl, trivial, trivial, trivial, rfl, trivial, trivial, trivial, trivial, trivial, trivial⟩
set_option maxRecDepth 100000 in
theorem am_okr_X1_get : (am_rows AM_X1_get).all (am_ok AM_X1_get) = true ∧ (am_okws AM_X1_get (am_rows AM_X1_get) ∧ am_okm AM_X1_get) := ⟨am_ok0_X1_get, am_ow0_X1_get, (fun _ => ⟨⟨rfl, rfl, rfl, by decide +kernel, by decide +kernel, by decide +kernel⟩, rfl, rfl, by decide +kernel⟩)⟩
theorem am_ok0_X1_set : am_r0_X1_set.all (am_ok AM_X1_set) = true := by decide +kernel
set_option maxRecDepth 100000 in
theorem am_ow0_X1_set : am_okws AM_X1_set am_r0_X1_set := ⟨trivial, trivial, trivial, trivial, rfl, trivial, trivial, trivial, rfl, trivial, trivial, trivial, trivial, trivial⟩
set_option maxRecDepth 100000 in
theorem am_okr_X1_set : (am_rows AM_X1_set).all (am_ok AM_X1_set) = true ∧ (am_okws AM_X1_set (am_rows AM_X1_set) ∧ am_okm AM_X1_set) := ⟨am_ok0_X1_set, am_ow0_X1_set, (fun _ => ⟨⟨rfl, rfl, rfl, by decide +kernel, by decide +kernel, by decide +kernel⟩, rfl, rfl, by decide +kernel⟩)⟩
theorem am_ok0_X1_copyFrom : am_r0_X1_copyFrom.all (am_ok AM_X1_copyFrom) = true := by decide +kernel
set_option maxRecDepth 100000 in
theorem am_ow0_X1_copyFrom : am_okws AM_X1_copyFrom am_r0_X1_copyFrom := ⟨trivial, trivial, trivial, trivial, rfl, trivial, trivial, trivial, rfl, trivial, trivial, trivial, rfl, trivial, trivial, trivial, trivial, trivial⟩
set_option maxRecDepth 100000 in
theorem am_okr_X1_copyFrom : (am_rows AM_X1_copyFrom).all (am_ok AM_X1_copyFrom) = true ∧ (am_okws AM_X1_copyFrom (am_rows AM_X1_copyFrom) ∧ am_okm AM_X1_copyFrom) := ⟨am_ok0_X1_copyFrom, am_ow0_X1_copyFrom, (fun _ => ⟨⟨rfl, rfl, rfl, by decide +kernel, by decide +kernel, by decide +kernel⟩, rfl, rfl, by decide +kernel⟩)⟩
theorem am_ok0_X2_init : am_r0_X2_init.all (am_ok AM_X2_init) = true := by decide +kernel
set_option maxRecDepth 100000 in
theorem am_ow0_X2_init : am_okws AM_X2_init am_r0_X2_init := ⟨trivial, rfl, trivial, rfl, trivial, trivial, rfl, rfl, trivial, rfl, trivial, trivial, rfl, rfl, trivial, rfl, trivial, trivial, rfl, rfl, trivial, trivial, rfl, trivial, trivial, rfl, trivial, trivial⟩
set_option maxRecDepth 100000 in
theorem am_okr_X2_init : (am_rows AM_X2_init).all (am_ok AM_X2_init) = true ∧ (am_okws AM_X2_init (am_rows AM_X2_init) ∧ am_okm AM_X2_init) := ⟨am_ok0_X2_init, am_ow0_X2_init, (fun _ => ⟨⟨rfl, rfl, rfl, by decide +kernel, by decide +kernel, by decide +kernel⟩, rfl, rfl, rfl, by decide +kernel⟩)⟩
theorem am_ok0_X2_start : am_r0_X2_start.all (am_ok AM_X2_start) = true := by decide +kernel
set_option maxRecDepth 100000 in
theorem am_ow0_X2_start : am_okws AM_X2_start am_r0_X2_start := ⟨trivial, rfl, trivial, rfl, rfl, trivial, trivial⟩
set_option maxRecDepth 100000 in
theorem am_okr_X2_start : (am_rows AM_X2_start).all (am_ok AM_X2_start) = true ∧ (am_okws AM_X2_start (am_rows AM_X2_start) ∧ am_okm AM_X2_start) := ⟨am_ok0_X2_start, am_ow0_X2_start, (fun _ => ⟨⟨rfl, rfl, rfl, by decide +kernel, by decide +kernel, by decide +kernel⟩, rfl, rfl, by decide +kernel⟩)⟩
theorem am_ok0_X2_passYear : am_r0_X2_passYear.all (am_ok AM_X2_passYear) = true := by decide +kernel
set_option maxRecDepth 100000 in
theorem am_ow0_X2_passYear : am_okws AM_X2_passYear am_r0_X2_passYear := ⟨trivial, trivial, trivial, trivial, trivial, trivial, rfl, trivial, trivial, trivial, trivial, rfl, rfl, trivial, trivial, trivial, rfl, trivial, rfl, rfl, trivial, trivial⟩
set_option maxRecDepth 100000 in
theorem am_okr_X2_passYear : (am_rows AM_X2_passYear).all (am_ok AM_X2_passYear) = true ∧ (am_okws AM_X2_passYear (am_rows AM_X2_passYear) ∧ am_okm AM_X2_passYear) := ⟨am_ok0_X2_passYear, am_ow0_X2_passYear, (fun _ => ⟨⟨rfl, rfl, rfl, by decide +kernel, by decide +kernel, by decide +kernel⟩, rfl, rfl, by decide +kernel⟩)⟩
theorem am_ok0_X2_choiceOf : am_r0_X2_choiceOf.all (am_ok AM_X2_choiceOf) = true := by decide +kernel
set_option maxRecDepth 100000 in
theorem am_ow0_X2_choiceOf : am_okws AM_X2_choiceOf am_r0_X2_choiceOf := ⟨trivial, rfl, trivial, rfl, trivial, trivial, trivial, rfl, trivial, trivial, rfl, trivial, rfl, trivial, rfl, trivial, trivial, trivial, trivial, trivial, trivial, trivial, rfl, trivial, trivial, trivial, trivial, trivial, trivial, trivial, trivial, trivial, rfl, trivial, trivial, trivial, trivial, trivial, trivial, trivial, trivial, trivial, trivial, trivial, trivial, trivial⟩
set_option maxRecDepth 100000 in
theorem am_okr_X2_choiceOf : (am_rows AM_X2_choiceOf).all (am_ok AM_X2_choiceOf) = true ∧ (am_okws AM_X2_choiceOf (am_rows AM_X2_choiceOf) ∧ am_okm AM_X2_choiceOf) := ⟨am_ok0_X2_choiceOf, am_ow0_X2_choiceOf, (fun _ => ⟨⟨rfl, rfl, rfl, by decide +kernel, by decide +kernel, by decide +kernel⟩, rfl, rfl, by decide +kernel⟩)⟩
theorem am_ok0_X2_holdersOf : am_r0_X2_holdersOf.all (am_ok AM_X2_holdersOf) = true := by decide +kernel
set_option maxRecDepth 100000 in
theorem am_ow0_X2_holdersOf : am_okws AM_X2_holdersOf am_r0_X2_holdersOf := ⟨trivial, trivial, trivial, trivial, trivial, trivial, trivial, trivial, trivial, trivial, rfl, trivial, trivial, rfl, trivial, rfl, trivial, trivial, trivial, trivial, trivial, trivial, trivial, trivial, trivial, trivial, trivial, trivial⟩
set_option maxRecDepth 100000 in
theorem am_okr_X2_holdersOf : (am_rows AM_X2_holdersOf).all (am_ok AM_X2_holdersOf) = true ∧ (am_okws AM_X2_holdersOf (am_rows AM_X2_holdersOf) ∧ am_okm AM_X2_holdersOf) := ⟨am_ok0_X2_holdersOf, am_ow0_X2_holdersOf, (fun _ => ⟨⟨rfl, rfl, rfl, by decide +kernel, by decide +kernel, by decide +kernel⟩, rfl, rfl, by decide +kernel⟩)⟩
theorem am_ok0_X2_findAgain : am_r0_X2_findAgain.all (am_ok AM_X2_findAgain) = true := by decide +kernel
set_option maxRecDepth 100000 in
theorem am_ow0_X2_findAgain : am_okws AM_X2_findAgain am_r0_X2_findAgain := ⟨trivial, trivial, rfl, trivial, trivial, trivial, trivial, trivial, trivial, rfl, trivial, trivial, trivial, trivial, trivial, trivial, trivial, rfl, trivial, rfl, trivial, trivial, trivial, trivial, rfl, trivial, trivial, rfl, trivial, trivial, trivial, trivial, rfl, trivial, trivial, rfl, trivial, trivial, rfl, trivial, trivial, trivial, trivial⟩
set_option maxRecDepth 100000 in
theorem am_okr_X2_findAgain : (am_rows AM_X2_findAgain).all (am_ok AM_X2_findAgain) = true ∧ (am_okws AM_X2_findAgain (am_rows AM_X2_findAgain) ∧ am_okm AM_X2_findAgain) := ⟨am_ok0_X2_findAgain, am_ow0_X2_findAgain, (fun _ => ⟨⟨rfl, rfl, rfl, by decide +kernel, by decide +kernel, by decide +kernel⟩, rfl, rfl, by decide +kernel⟩)⟩
theorem am_ok0_X2_heldAsNumber : am_r0_X2_heldAsNumber.all (am_ok AM_X2_heldAsNumber) = true := by decide +kernel
set_option maxRecDepth 100000 in
theorem am_ow0_X2_heldAsNumber : am_okws AM_X2_heldAsNumber am_r0_X2_heldAsNumber := ⟨trivial, trivial, trivial, trivial, trivial, trivial, trivial, trivial, trivial, trivial, trivial, rfl, trivial, rfl, trivial, trivial, trivial, trivial, trivial, trivial, trivial⟩
set_option maxRecDepth 100000 in
theorem am_okr_X2_heldAsNumber : (am_rows AM_X2_heldAsNumber).all (am_ok AM_X2_heldAsNumber) = true ∧ (am_okws AM_X2_heldAsNumber (am_rows AM_X2_heldAsNumber) ∧ am_okm AM_X2_heldAsNumber) := ⟨am_ok0_X2_heldAsNumber, am_ow0_X2_heldAsNumber, (fun _ => ⟨⟨rfl, rfl, rfl, by decide +kernel, by decide +kernel, by decide +kernel⟩, rfl, rfl, by decide +kernel⟩)⟩
theorem am_ok0_X3_init : am_r0_X3_init.all (am_ok AM_X3_init) = true := by decide +kernel
set_option maxRecDepth 100000 in
theorem am_ow0_X3_init : am_okws AM_X3_init am_r0_X3_init := ⟨trivial, rfl, trivial, rfl, trivial, rfl, rfl, trivial, trivial, rfl, trivial, trivial, rfl, trivial, trivial, rfl, trivial, trivial, rfl, trivial, trivial, rfl, trivial, trivial, rfl, trivial, trivial⟩
set_option maxRecDepth 100000 in
theorem am_okr_X3_init : (am_rows AM_X3_init).all (am_ok AM_X3_init) = true ∧ (am_okws AM_X3_init (am_rows AM_X3_init) ∧ am_okm AM_X3_init) := ⟨am_ok0_X3_init, am_ow0_X3_init, (fun _ => ⟨⟨rfl, rfl, rfl, by decide +kernel, by decide +kernel, by decide +kernel⟩, rfl, rfl, rfl, by decide +kernel⟩)⟩
theorem am_ok0_X3_start : am_r0_X3_start.all (am_ok AM_X3_start) = true := by decide +kernel
set_option maxRecDepth 100000 in
theorem am_ow0_X3_start : am_okws AM_X3_start am_r0_X3_start := ⟨trivial, rfl, trivial, rfl, trivial, trivial, rfl, trivial, trivial, rfl, trivial, trivial, rfl, trivial, trivial, rfl, trivial, trivial, rfl, trivial, trivial, rfl, trivial, trivial⟩
set_option maxRecDepth 100000 in
theorem am_okr_X3_start : (am_rows AM_X3_start).all (am_ok AM_X3_start) = true ∧ (am_okws AM_X3_start (am_rows AM_X3_start) ∧ am_okm AM_X3_start) := ⟨am_ok0_X3_start, am_ow0_X3_start, (fun _ => ⟨⟨rfl, rfl, rfl, by decide +kernel, by decide +kernel, by decide +kernel⟩, rfl, rfl, by decide +kernel⟩)⟩
theorem am_ok0_X3_tellYears : am_r0_X3_tellYears.all (am_ok AM_X3_tellYears) = true := by decide +kernel
set_option maxRecDepth 100000 in
theorem am_ow0_X3_tellYears : am_okws AM_X3_tellYears am_r0_X3_tellYears := ⟨trivial, trivial, rfl, trivial, rfl, trivial, trivial, trivial, trivial, trivial, trivial, trivial, trivial, rfl, trivial, trivial, rfl, trivial, trivial, trivial, trivial, rfl, trivial, trivial, trivial, trivial, rfl, trivial, trivial, rfl, trivial, trivial, rfl, rfl, trivial, trivial, trivial, trivial, trivial, rfl, rfl, trivial, trivial, rfl, trivial, trivial, trivial, rfl, trivial, trivial, trivial, trivial, trivial, trivial, trivial⟩
set_option maxRecDepth 100000 in
theorem am_okr_X3_tellYears : (am_rows AM_X3_tellYears).all (am_ok AM_X3_tellYears) = true ∧ (am_okws AM_X3_tellYears (am_rows AM_X3_tellYears) ∧ am_okm AM_X3_tellYears) := ⟨am_ok0_X3_tellYears, am_ow0_X3_tellYears, (fun _ => ⟨⟨rfl, rfl, rfl, by decide +kernel, by decide +kernel, by decide +kernel⟩, rfl, rfl, by decide +kernel⟩)⟩
theorem am_ok0_X3_tellBook : am_r0_X3_tellBook.all (am_ok AM_X3_tellBook) = true := by decide +kernel
set_option maxRecDepth 100000 in
theorem am_ow0_X3_tellBook : am_okws AM_X3_tellBook am_r0_X3_tellBook := ⟨trivial, trivial, rfl, trivial, trivial, trivial, trivial, trivial, trivial, trivial, trivial, trivial, trivial, trivial, trivial, rfl, trivial, trivial, trivial, trivial, trivial, rfl, trivial, trivial, trivial, trivial, trivial, trivial, trivial, trivial, trivial, trivial, trivial, trivial, trivial, trivial, trivial, trivial, trivial, trivial, trivial, trivial, trivial, trivial, rfl, trivial, trivial, trivial, trivial, trivial⟩
set_option maxRecDepth 100000 in
theorem am_okr_X3_tellBook : (am_rows AM_X3_tellBook).all (am_ok AM_X3_tellBook) = true ∧ (am_okws AM_X3_tellBook (am_rows AM_X3_tellBook) ∧ am_okm AM_X3_tellBook) := ⟨am_ok0_X3_tellBook, am_ow0_X3_tellBook, (fun _ => ⟨⟨rfl, rfl, rfl, by decide +kernel, by decide +kernel, by decide +kernel⟩, rfl, rfl, by decide +kernel⟩)⟩
theorem am_ok0_X3_kindDrawn : am_r0_X3_kindDrawn.all (am_ok AM_X3_kindDrawn) = true := by decide +kernel
set_option maxRecDepth 100000 in
theorem am_ow0_X3_kindDrawn : am_okws AM_X3_kindDrawn am_r0_X3_kindDrawn := ⟨trivial, trivial, trivial, trivial, trivial, trivial, trivial, trivial, trivial, trivial, trivial, trivial, trivial, trivial, trivial, trivial, trivial, trivial⟩
set_option maxRecDepth 100000 in
theorem am_okr_X3_kindDrawn : (am_rows AM_X3_kindDrawn).all (am_ok AM_X3_kindDrawn) = true ∧ (am_okws AM_X3_kindDrawn (am_rows AM_X3_kindDrawn) ∧ am_okm AM_X3_kindDrawn) := ⟨am_ok0_X3_kindDrawn, am_ow0_X3_kindDrawn, (fun _ => ⟨⟨rfl, rfl, rfl, by decide +kernel, by decide +kernel, by decide +kernel⟩, rfl, by decide +kernel⟩)⟩
theorem am_ok0_X3_tellAct : am_r0_X3_tellAct.all (am_ok AM_X3_tellAct) = true := by decide +kernel
set_option maxRecDepth 100000 in
theorem am_ow0_X3_tellAct : am_okws AM_X3_tellAct am_r0_X3_tellAct := ⟨trivial, rfl, trivial, trivial, trivial, rfl, trivial, trivial, trivial, trivial, trivial, trivial, rfl, trivial, trivial, trivial, rfl, trivial, trivial, rfl, trivial, trivial, trivial, rfl, rfl, trivial, trivial, rfl, trivial, trivial, rfl, trivial, trivial, rfl, trivial, trivial, rfl, trivial, trivial, rfl, trivial, trivial, trivial⟩
set_option maxRecDepth 100000 in
theorem am_okr_X3_tellAct : (am_rows AM_X3_tellAct).all (am_ok AM_X3_tellAct) = true ∧ (am_okws AM_X3_tellAct (am_rows AM_X3_tellAct) ∧ am_okm AM_X3_tellAct) := ⟨am_ok0_X3_tellAct, am_ow0_X3_tellAct, (fun _ => ⟨⟨rfl, rfl, rfl, by decide +kernel, by decide +kernel, by decide +kernel⟩, rfl, rfl, by decide +kernel⟩)⟩
theorem am_ok0_X4_init : am_r0_X4_init.all (am_ok AM_X4_init) = true := by decide +kernel
set_option maxRecDepth 100000 in
theorem am_ow0_X4_init : am_okws AM_X4_init am_r0_X4_init := ⟨trivial, rfl, trivial, rfl, trivial, trivial, rfl, rfl, trivial, trivial, rfl, trivial, trivial, rfl, trivial, rfl, trivial, trivial, rfl, rfl, trivial, rfl, trivial, trivial, rfl, rfl, trivial, rfl, trivial, trivial, rfl, rfl, trivial, trivial, rfl, trivial, rfl, trivial, trivial, rfl, rfl, trivial, rfl, trivial, trivial, rfl, rfl, trivial, trivial, rfl, trivial, rfl, trivial, trivial, rfl, rfl, trivial, rfl, trivial, trivial, trivial⟩
theorem am_ok1_X4_init : am_r1_X4_init.all (am_ok AM_X4_init) = true := by decide +kernel
set_option maxRecDepth 100000 in
theorem am_ow1_X4_init : am_okws AM_X4_init am_r1_X4_init := ⟨rfl, rfl, trivial, rfl, trivial, trivial, rfl, rfl, trivial, trivial, rfl, trivial, trivial, rfl, trivial, rfl, rfl, trivial, rfl, trivial, trivial, rfl, trivial, rfl, trivial, trivial, rfl, trivial, rfl, trivial, trivial, rfl, trivial, trivial⟩
set_option maxRecDepth 100000 in
theorem am_okr_X4_init : (am_rows AM_X4_init).all (am_ok AM_X4_init) = true ∧ (am_okws AM_X4_init (am_rows AM_X4_init) ∧ am_okm AM_X4_init) := ⟨am_all_app am_ok0_X4_init am_ok1_X4_init, am_okws_app am_ow0_X4_init am_ow1_X4_init, (fun _ => ⟨⟨rfl, rfl, rfl, by decide +kernel, by decide +kernel, by decide +kernel⟩, rfl, rfl, rfl, by decide +kernel⟩)⟩
theorem am_ok0_X4_copyFrom : am_r0_X4_copyFrom.all (am_ok AM_X4_copyFrom) = true := by decide +kernel
set_option maxRecDepth 100000 in
theorem am_ow0_X4_copyFrom : am_okws AM_X4_copyFrom am_r0_X4_copyFrom := ⟨trivial, rfl, trivial, rfl, rfl, trivial, trivial, rfl, rfl, trivial, trivial, rfl, rfl, trivial, rfl, trivial, rfl, rfl, trivial, rfl, trivial, rfl, rfl, trivial, rfl, trivial, rfl, rfl, trivial, trivial, rfl, rfl, trivial, rfl, trivial, rfl, rfl, trivial, rfl, trivial, rfl, rfl, trivial, trivial, rfl, rfl, trivial, rfl, trivial, rfl, rfl, trivial, rfl, trivial, rfl, rfl, trivial, rfl, trivial, rfl, trivial⟩
theorem am_ok1_X4_copyFrom : am_r1_X4_copyFrom.all (am_ok AM_X4_copyFrom) = true := by decide +kernel
set_option maxRecDepth 100000 in
theorem am_ow1_X4_copyFrom : am_okws AM_X4_copyFrom am_r1_X4_copyFrom := ⟨rfl, trivial, trivial, rfl, rfl, trivial, trivial, rfl, rfl, trivial, trivial, rfl, rfl, trivial, trivial⟩
set_option maxRecDepth 100000 in
theorem am_okr_X4_copyFrom : (am_rows AM_X4_copyFrom).all (am_ok AM_X4_copyFrom) = true ∧ (am_okws AM_X4_copyFrom (am_rows AM_X4_copyFrom) ∧ am_okm AM_X4_copyFrom) := ⟨am_all_app am_ok0_X4_copyFrom am_ok1_X4_copyFrom, am_okws_app am_ow0_X4_copyFrom am_ow1_X4_copyFrom, (fun _ => ⟨⟨rfl, rfl, rfl, by decide +kernel, by decide +kernel, by decide +kernel⟩, rfl, rfl, by decide +kernel⟩)⟩
theorem am_ok0_X4_isThere : am_r0_X4_isThere.all (am_ok AM_X4_isThere) = true := by decide +kernel
set_option maxRecDepth 100000 in
theorem am_ow0_X4_isThere : am_okws AM_X4_isThere am_r0_X4_isThere := ⟨trivial, rfl, trivial, rfl, trivial, trivial⟩
set_option maxRecDepth 100000 in
theorem am_okr_X4_isThere : (am_rows AM_X4_isThere).all (am_ok AM_X4_isThere) = true ∧ (am_okws AM_X4_isThere (am_rows AM_X4_isThere) ∧ am_okm AM_X4_isThere) := ⟨am_ok0_X4_isThere, am_ow0_X4_isThere, (fun _ => ⟨⟨rfl, rfl, rfl, by decide +kernel, by decide +kernel, by decide +kernel⟩, rfl, rfl, by decide +kernel⟩)⟩
theorem am_ok0_X4_areThere : am_r0_X4_areThere.all (am_ok AM_X4_areThere) = true := by decide +kernel
set_option maxRecDepth 100000 in
theorem am_ow0_X4_areThere : am_okws AM_X4_areThere am_r0_X4_areThere := ⟨trivial, trivial, rfl, trivial, trivial, trivial, trivial, trivial, trivial, trivial, trivial, trivial⟩
set_option maxRecDepth 100000 in
theorem am_okr_X4_areThere : (am_rows AM_X4_areThere).all (am_ok AM_X4_areThere) = true ∧ (am_okws AM_X4_areThere (am_rows AM_X4_areThere) ∧ am_okm AM_X4_areThere) := ⟨am_ok0_X4_areThere, am_ow0_X4_areThere, (fun _ => ⟨⟨rfl, rfl, rfl, by decide +kernel, by decide +kernel, by decide +kernel⟩, rfl, rfl, by decide +kernel⟩)⟩
theorem am_ok0_X4_stands : am_r0_X4_stands.all (am_ok AM_X4_stands) = true := by decide +kernel
set_option maxRecDepth 100000 in
theorem am_ow0_X4_stands : am_okws AM_X4_stands am_r0_X4_stands := ⟨trivial, rfl, trivial, rfl, trivial, trivial⟩
set_option maxRecDepth 100000 in
theorem am_okr_X4_stands : (am_rows AM_X4_stands).all (am_ok AM_X4_stands) = true ∧ (am_okws AM_X4_stands (am_rows AM_X4_stands) ∧ am_okm AM_X4_stands) := ⟨am_ok0_X4_stands, am_ow0_X4_stands, (fun _ => ⟨⟨rfl, rfl, rfl, by decide +kernel, by decide +kernel, by decide +kernel⟩, rfl, rfl, by decide +kernel⟩)⟩
theorem am_ok0_X4_wallTold : am_r0_X4_wallTold.all (am_ok AM_X4_wallTold) = true := by decide +kernel
set_option maxRecDepth 100000 in
theorem am_ow0_X4_wallTold : am_okws AM_X4_wallTold am_r0_X4_wallTold := ⟨trivial, trivial, trivial, rfl, trivial, rfl, trivial, trivial, trivial, trivial, rfl, trivial, rfl, trivial, trivial⟩
set_option maxRecDepth 100000 in
theorem am_okr_X4_wallTold : (am_rows AM_X4_wallTold).all (am_ok AM_X4_wallTold) = true ∧ (am_okws AM_X4_wallTold (am_rows AM_X4_wallTold) ∧ am_okm AM_X4_wallTold) := ⟨am_ok0_X4_wallTold, am_ow0_X4_wallTold, (fun _ => ⟨⟨rfl, rfl, rfl, by decide +kernel, by decide +kernel, by decide +kernel⟩, rfl, rfl, by decide +kernel⟩)⟩
theorem am_ok0_X4_setKin : am_r0_X4_setKin.all (am_ok AM_X4_setKin) = true := by decide +kernel
set_option maxRecDepth 100000 in
theorem am_ow0_X4_setKin : am_okws AM_X4_setKin am_r0_X4_setKin := ⟨trivial, rfl, trivial, rfl, trivial, trivial, trivial, trivial, trivial, trivial, trivial, trivial, rfl, trivial, trivial, trivial, trivial, trivial, trivial, trivial, trivial, trivial, trivial, rfl, trivial, trivial⟩
set_option maxRecDepth 100000 in
theorem am_okr_X4_setKin : (am_rows AM_X4_setKin).all (am_ok AM_X4_setKin) = true ∧ (am_okws AM_X4_setKin (am_rows AM_X4_setKin) ∧ am_okm AM_X4_setKin) := ⟨am_ok0_X4_setKin, am_ow0_X4_setKin, (fun _ => ⟨⟨rfl, rfl, rfl, by decide +kernel, by decide +kernel, by decide +kernel⟩, rfl, rfl, by decide +kernel⟩)⟩
theorem am_ok0_X4_kinTwos : am_r0_X4_kinTwos.all (am_ok AM_X4_kinTwos) = true := by decide +kernel
set_option maxRecDepth 100000 in
theorem am_ow0_X4_kinTwos : am_okws AM_X4_kinTwos am_r0_X4_kinTwos := ⟨trivial, trivial, trivial, trivial, trivial, trivial, trivial, trivial, trivial, rfl, trivial, rfl, rfl, trivial, trivial, trivial, trivial, trivial, trivial, trivial, trivial, trivial⟩
set_option maxRecDepth 100000 in
theorem am_okr_X4_kinTwos : (am_rows AM_X4_kinTwos).all (am_ok AM_X4_kinTwos) = true ∧ (am_okws AM_X4_kinTwos (am_rows AM_X4_kinTwos) ∧ am_okm AM_X4_kinTwos) := ⟨am_ok0_X4_kinTwos, am_ow0_X4_kinTwos, (fun _ => ⟨⟨rfl, rfl, rfl, by decide +kernel, by decide +kernel, by decide +kernel⟩, rfl, rfl, by decide +kernel⟩)⟩
theorem am_ok0_X4_downFor : am_r0_X4_downFor.all (am_ok AM_X4_downFor) = true := by decide +kernel
set_option maxRecDepth 100000 in
theorem am_ow0_X4_downFor : am_okws AM_X4_downFor am_r0_X4_downFor := ⟨trivial, rfl, trivial, rfl, trivial, rfl, rfl, trivial, trivial⟩
set_option maxRecDepth 100000 in
theorem am_okr_X4_downFor : (am_rows AM_X4_downFor).all (am_ok AM_X4_downFor) = true ∧ (am_okws AM_X4_downFor (am_rows AM_X4_downFor) ∧ am_okm AM_X4_downFor) := ⟨am_ok0_X4_downFor, am_ow0_X4_downFor, (fun _ => ⟨⟨rfl, rfl, rfl, by decide +kernel, by decide +kernel, by decide +kernel⟩, rfl, rfl, by decide +kernel⟩)⟩
theorem am_ok0_X4_carries : am_r0_X4_carries.all (am_ok AM_X4_carries) = true := by decide +kernel
set_option maxRecDepth 100000 in
theorem am_ow0_X4_carries : am_okws AM_X4_carries am_r0_X4_carries := ⟨trivial, trivial, rfl, trivial, rfl, trivial, rfl, rfl, trivial, rfl, trivial, rfl, trivial, trivial, trivial, trivial, trivial, trivial⟩
set_option maxRecDepth 100000 in
theorem am_okr_X4_carries : (am_rows AM_X4_carries).all (am_ok AM_X4_carries) = true ∧ (am_okws AM_X4_carries (am_rows AM_X4_carries) ∧ am_okm AM_X4_carries) := ⟨am_ok0_X4_carries, am_ow0_X4_carries, (fun _ => ⟨⟨rfl, rfl, rfl, by decide +kernel, by decide +kernel, by decide +kernel⟩, rfl, rfl, by decide +kernel⟩)⟩
theorem am_ok0_X4_wallsFor : am_r0_X4_wallsFor.all (am_ok AM_X4_wallsFor) = true := by decide +kernel
set_option maxRecDepth 100000 in
theorem am_ow0_X4_wallsFor : am_okws AM_X4_wallsFor am_r0_X4_wallsFor := ⟨trivial, trivial, trivial, trivial, trivial, trivial, trivial, trivial, trivial, rfl, trivial, trivial, trivial, rfl, trivial, rfl, trivial, rfl, trivial, trivial, trivial, trivial, trivial, trivial, trivial, trivial, trivial, trivial, trivial, trivial⟩
set_option maxRecDepth 100000 in
theorem am_okr_X4_wallsFor : (am_rows AM_X4_wallsFor).all (am_ok AM_X4_wallsFor) = true ∧ (am_okws AM_X4_wallsFor (am_rows AM_X4_wallsFor) ∧ am_okm AM_X4_wallsFor) := ⟨am_ok0_X4_wallsFor, am_ow0_X4_wallsFor, (fun _ => ⟨⟨rfl, rfl, rfl, by decide +kernel, by decide +kernel, by decide +kernel⟩, rfl, rfl, by decide +kernel⟩)⟩
theorem am_ok0_X4_carriesAll : am_r0_X4_carriesAll.all (am_ok AM_X4_carriesAll) = true := by decide +kernel
set_option maxRecDepth 100000 in
theorem am_ow0_X4_carriesAll : am_okws AM_X4_carriesAll am_r0_X4_carriesAll := ⟨trivial, trivial, trivial, trivial, trivial, trivial, trivial, rfl, trivial, trivial, trivial, trivial, rfl, trivial, trivial, trivial, trivial, trivial, trivial, trivial, trivial⟩
set_option maxRecDepth 100000 in
theorem am_okr_X4_carriesAll : (am_rows AM_X4_carriesAll).all (am_ok AM_X4_carriesAll) = true ∧ (am_okws AM_X4_carriesAll (am_rows AM_X4_carriesAll) ∧ am_okm AM_X4_carriesAll) := ⟨am_ok0_X4_carriesAll, am_ow0_X4_carriesAll, (fun _ => ⟨⟨rfl, rfl, rfl, by decide +kernel, by decide +kernel, by decide +kernel⟩, rfl, rfl, by decide +kernel⟩)⟩
theorem am_ok0_X4_leansFor : am_r0_X4_leansFor.all (am_ok AM_X4_leansFor) = true := by decide +kernel
set_option maxRecDepth 100000 in
theorem am_ow0_X4_leansFor : am_okws AM_X4_leansFor am_r0_X4_leansFor := ⟨trivial, trivial, trivial, trivial, trivial, trivial, trivial, trivial, trivial, trivial, rfl, trivial, trivial, trivial, trivial, trivial, trivial, trivial, trivial, trivial, trivial, trivial, trivial, trivial, trivial⟩
set_option maxRecDepth 100000 in
theorem am_okr_X4_leansFor : (am_rows AM_X4_leansFor).all (am_ok AM_X4_leansFor) = true ∧ (am_okws AM_X4_leansFor (am_rows AM_X4_leansFor) ∧ am_okm AM_X4_leansFor) := ⟨am_ok0_X4_leansFor, am_ow0_X4_leansFor, (fun _ => ⟨⟨rfl, rfl, rfl, by decide +kernel, by decide +kernel, by decide +kernel⟩, rfl, rfl, by decide +kernel⟩)⟩
theorem am_ok0_X4_stepsFrom : am_r0_X4_stepsFrom.all (am_ok AM_X4_stepsFrom) = true := by decide +kernel
set_option maxRecDepth 100000 in
theorem am_ow0_X4_stepsFrom : am_okws AM_X4_stepsFrom am_r0_X4_stepsFrom := ⟨trivial, trivial, trivial, trivial, trivial, trivial, trivial, trivial, rfl, trivial, rfl, trivial, trivial, trivial, rfl, trivial, rfl, trivial, rfl, trivial, trivial, rfl, trivial, rfl, trivial, trivial, rfl, trivial, rfl, trivial, trivial, trivial, trivial, rfl, trivial, trivial, trivial, trivial, trivial, trivial, trivial, trivial, trivial, trivial, trivial, rfl, trivial, trivial, trivial, trivial, trivial, trivial, trivial, trivial, trivial, trivial, trivial, trivial, trivial⟩
set_option maxRecDepth 100000 in
theorem am_okr_X4_stepsFrom : (am_rows AM_X4_stepsFrom).all (am_ok AM_X4_stepsFrom) = true ∧ (am_okws AM_X4_stepsFrom (am_rows AM_X4_stepsFrom) ∧ am_okm AM_X4_stepsFrom) := ⟨am_ok0_X4_stepsFrom, am_ow0_X4_stepsFrom, (fun _ => ⟨⟨rfl, rfl, rfl, by decide +kernel, by decide +kernel, by decide +kernel⟩, rfl, rfl, by decide +kernel⟩)⟩
theorem am_ok0_X4_doubtOfAll : am_r0_X4_doubtOfAll.all (am_ok AM_X4_doubtOfAll) = true := by decide +kernel
set_option maxRecDepth 100000 in
theorem am_ow0_X4_doubtOfAll : am_okws AM_X4_doubtOfAll am_r0_X4_doubtOfAll := ⟨trivial, trivial, trivial, trivial, trivial, trivial, trivial, trivial, trivial, trivial, rfl, trivial, trivial, rfl, trivial, rfl, trivial, trivial, trivial, trivial, trivial, trivial, trivial, trivial, trivial⟩
set_option maxRecDepth 100000 in
theorem am_okr_X4_doubtOfAll : (am_rows AM_X4_doubtOfAll).all (am_ok AM_X4_doubtOfAll) = true ∧ (am_okws AM_X4_doubtOfAll (am_rows AM_X4_doubtOfAll) ∧ am_okm AM_X4_doubtOfAll) := ⟨am_ok0_X4_doubtOfAll, am_ow0_X4_doubtOfAll, (fun _ => ⟨⟨rfl, rfl, rfl, by decide +kernel, by decide +kernel, by decide +kernel⟩, rfl, rfl, by decide +kernel⟩)⟩
theorem am_ok0_X4_reasonAgainst : am_r0_X4_reasonAgainst.all (am_ok AM_X4_reasonAgainst) = true := by decide +kernel
set_option maxRecDepth 100000 in
theorem am_ow0_X4_reasonAgainst : am_okws AM_X4_reasonAgainst am_r0_X4_reasonAgainst := ⟨trivial, trivial, trivial, trivial, trivial, trivial, trivial, trivial, trivial, rfl, trivial, trivial, trivial, trivial, trivial, trivial, trivial, trivial, rfl, trivial, trivial, trivial, trivial, trivial, trivial, trivial, trivial, rfl, trivial, trivial, trivial, trivial, trivial, trivial, trivial, trivial, trivial, rfl, trivial, rfl, trivial, trivial, trivial, trivial, trivial, trivial, trivial, rfl, trivial, rfl, trivial, trivial, trivial, trivial, trivial, trivial, trivial⟩
set_option maxRecDepth 100000 in
theorem am_okr_X4_reasonAgainst : (am_rows AM_X4_reasonAgainst).all (am_ok AM_X4_reasonAgainst) = true ∧ (am_okws AM_X4_reasonAgainst (am_rows AM_X4_reasonAgainst) ∧ am_okm AM_X4_reasonAgainst) := ⟨am_ok0_X4_reasonAgainst, am_ow0_X4_reasonAgainst, (fun _ => ⟨⟨rfl, rfl, rfl, by decide +kernel, by decide +kernel, by decide +kernel⟩, rfl, rfl, by decide +kernel⟩)⟩
theorem am_ok0_X4_enact : am_r0_X4_enact.all (am_ok AM_X4_enact) = true := by decide +kernel
set_option maxRecDepth 100000 in
theorem am_ow0_X4_enact : am_okws AM_X4_enact am_r0_X4_enact := ⟨trivial, trivial, trivial, trivial, trivial, rfl, trivial, trivial, trivial, trivial, trivial, rfl, trivial, trivial, rfl, trivial, trivial, rfl, trivial, rfl, trivial, trivial, rfl, trivial, trivial, trivial, rfl, trivial, trivial, trivial, trivial, rfl, trivial, trivial, rfl, trivial, trivial, trivial⟩
set_option maxRecDepth 100000 in
theorem am_okr_X4_enact : (am_rows AM_X4_enact).all (am_ok AM_X4_enact) = true ∧ (am_okws AM_X4_enact (am_rows AM_X4_enact) ∧ am_okm AM_X4_enact) := ⟨am_ok0_X4_enact, am_ow0_X4_enact, (fun _ => ⟨⟨rfl, rfl, rfl, by decide +kernel, by decide +kernel, by decide +kernel⟩, rfl, rfl, by decide +kernel⟩)⟩
theorem am_ok0_X4_build : am_r0_X4_build.all (am_ok AM_X4_build) = true := by decide +kernel
set_option maxRecDepth 100000 in
theorem am_ow0_X4_build : am_okws AM_X4_build am_r0_X4_build := ⟨trivial, trivial, rfl, trivial, trivial, trivial, trivial, rfl, trivial, rfl, trivial, trivial, trivial, rfl, rfl, trivial, rfl, trivial, trivial, rfl, trivial, rfl, rfl, trivial, trivial⟩
set_option maxRecDepth 100000 in
theorem am_okr_X4_build : (am_rows AM_X4_build).all (am_ok AM_X4_build) = true ∧ (am_okws AM_X4_build (am_rows AM_X4_build) ∧ am_okm AM_X4_build) := ⟨am_ok0_X4_build, am_ow0_X4_build, (fun _ => ⟨⟨rfl, rfl, rfl, by decide +kernel, by decide +kernel, by decide +kernel⟩, rfl, rfl, by decide +kernel⟩)⟩
theorem am_ok0_X4_tryWall : am_r0_X4_tryWall.all (am_ok AM_X4_tryWall) = true := by decide +kernel
set_option maxRecDepth 100000 in
theorem am_ow0_X4_tryWall : am_okws AM_X4_tryWall am_r0_X4_tryWall := ⟨trivial, trivial, rfl, trivial, rfl, trivial, rfl, trivial, trivial, rfl, trivial, trivial, rfl, trivial, rfl, trivial, trivial, trivial, rfl, rfl, trivial, trivial, trivial, rfl, trivial, rfl, trivial, trivial, trivial, trivial, trivial, trivial, trivial, rfl, trivial, trivial, rfl, trivial, rfl, rfl, trivial, trivial, trivial, rfl, trivial, trivial, rfl, trivial, trivial, trivial⟩
set_option maxRecDepth 100000 in
theorem am_okr_X4_tryWall : (am_rows AM_X4_tryWall).all (am_ok AM_X4_tryWall) = true ∧ (am_okws AM_X4_tryWall (am_rows AM_X4_tryWall) ∧ am_okm AM_X4_tryWall) := ⟨am_ok0_X4_tryWall, am_ow0_X4_tryWall, (fun _ => ⟨⟨rfl, rfl, rfl, by decide +kernel, by decide +kernel, by decide +kernel⟩, rfl, rfl, by decide +kernel⟩)⟩
theorem am_ok0_X4_quake : am_r0_X4_quake.all (am_ok AM_X4_quake) = true := by decide +kernel
set_option maxRecDepth 100000 in
theorem am_ow0_X4_quake : am_okws AM_X4_quake am_r0_X4_quake := ⟨trivial, trivial, trivial, trivial, trivial, trivial, rfl, trivial, rfl, rfl, trivial, rfl, trivial, trivial, trivial, rfl, trivial, trivial, trivial, trivial, trivial, trivial, rfl, trivial, trivial, trivial, trivial⟩
set_option maxRecDepth 100000 in
theorem am_okr_X4_quake : (am_rows AM_X4_quake).all (am_ok AM_X4_quake) = true ∧ (am_okws AM_X4_quake (am_rows AM_X4_quake) ∧ am_okm AM_X4_quake) := ⟨am_ok0_X4_quake, am_ow0_X4_quake, (fun _ => ⟨⟨rfl, rfl, rfl, by decide +kernel, by decide +kernel, by decide +kernel⟩, rfl, rfl, by decide +kernel⟩)⟩
theorem am_ok0_X5_init : am_r0_X5_init.all (am_ok AM_X5_init) = true := by decide +kernel
set_option maxRecDepth 100000 in
theorem am_ow0_X5_init : am_okws AM_X5_init am_r0_X5_init := ⟨trivial, rfl, trivial, rfl, trivial, rfl, rfl, trivial, rfl, trivial, rfl, rfl, trivial, rfl, trivial, rfl, rfl, trivial, rfl, trivial, rfl, rfl, trivial, rfl, trivial, rfl, rfl, trivial, rfl, trivial, rfl, rfl, trivial, trivial, rfl, trivial, trivial⟩
set_option maxRecDepth 100000 in
theorem am_okr_X5_init : (am_rows AM_X5_init).all (am_ok AM_X5_init) = true ∧ (am_okws AM_X5_init (am_rows AM_X5_init) ∧ am_okm AM_X5_init) := ⟨am_ok0_X5_init, am_ow0_X5_init, (fun _ => ⟨⟨rfl, rfl, rfl, by decide +kernel, by decide +kernel, by decide +kernel⟩, rfl, rfl, rfl, by decide +kernel⟩)⟩
theorem am_ok0_X5_creed : am_r0_X5_creed.all (am_ok AM_X5_creed) = true := by decide +kernel
set_option maxRecDepth 100000 in
theorem am_ow0_X5_creed : am_okws AM_X5_creed am_r0_X5_creed := ⟨trivial, trivial, trivial, rfl, trivial, trivial, trivial, trivial, rfl, trivial, trivial, trivial, trivial, rfl, rfl, trivial, rfl, trivial, trivial, rfl, rfl, trivial, trivial, rfl, trivial, trivial, trivial, trivial, trivial⟩
set_option maxRecDepth 100000 in
theorem am_okr_X5_creed : (am_rows AM_X5_creed).all (am_ok AM_X5_creed) = true ∧ (am_okws AM_X5_creed (am_rows AM_X5_creed) ∧ am_okm AM_X5_creed) := ⟨am_ok0_X5_creed, am_ow0_X5_creed, (fun _ => ⟨⟨rfl, rfl, rfl, by decide +kernel, by decide +kernel, by decide +kernel⟩, rfl, rfl, by decide +kernel⟩)⟩
theorem am_ok0_X5_bear : am_r0_X5_bear.all (am_ok AM_X5_bear) = true := by decide +kernel
set_option maxRecDepth 100000 in
theorem am_ow0_X5_bear : am_okws AM_X5_bear am_r0_X5_bear := ⟨trivial, trivial, trivial, rfl, trivial, trivial, trivial, trivial, rfl, rfl, trivial, trivial, rfl, trivial, rfl, trivial, trivial, trivial⟩
set_option maxRecDepth 100000 in
theorem am_okr_X5_bear : (am_rows AM_X5_bear).all (am_ok AM_X5_bear) = true ∧ (am_okws AM_X5_bear (am_rows AM_X5_bear) ∧ am_okm AM_X5_bear) := ⟨am_ok0_X5_bear, am_ow0_X5_bear, (fun _ => ⟨⟨rfl, rfl, rfl, by decide +kernel, by decide +kernel, by decide +kernel⟩, rfl, rfl, by decide +kernel⟩)⟩
theorem am_ok0_X5_one : am_r0_X5_one.all (am_ok AM_X5_one) = true := by decide +kernel
set_option maxRecDepth 100000 in
theorem am_ow0_X5_one : am_okws AM_X5_one am_r0_X5_one := ⟨trivial, trivial, trivial, rfl, trivial, trivial, trivial, trivial, trivial, trivial, rfl, trivial, trivial, trivial, trivial, rfl, trivial, trivial, trivial, trivial, rfl, trivial, rfl, trivial, trivial, trivial, trivial, rfl, trivial, rfl, rfl, trivial, trivial, rfl, trivial, rfl, rfl, trivial, trivial, rfl, trivial, rfl, rfl, rfl, trivial, trivial⟩
set_option maxRecDepth 100000 in
theorem am_okr_X5_one : (am_rows AM_X5_one).all (am_ok AM_X5_one) = true ∧ (am_okws AM_X5_one (am_rows AM_X5_one) ∧ am_okm AM_X5_one) := ⟨am_ok0_X5_one, am_ow0_X5_one, (fun _ => ⟨⟨rfl, rfl, rfl, by decide +kernel, by decide +kernel, by decide +kernel⟩, rfl, rfl, by decide +kernel⟩)⟩
theorem am_ok0_X5_leave : am_r0_X5_leave.all (am_ok AM_X5_leave) = true := by decide +kernel
set_option maxRecDepth 100000 in
theorem am_ow0_X5_leave : am_okws AM_X5_leave am_r0_X5_leave := ⟨trivial, rfl, trivial, rfl, trivial, trivial, trivial, trivial, rfl, trivial, rfl, trivial, trivial, trivial, trivial, trivial, trivial, rfl, trivial, rfl, rfl, rfl, trivial, trivial⟩
set_option maxRecDepth 100000 in
theorem am_okr_X5_leave : (am_rows AM_X5_leave).all (am_ok AM_X5_leave) = true ∧ (am_okws AM_X5_leave (am_rows AM_X5_leave) ∧ am_okm AM_X5_leave) := ⟨am_ok0_X5_leave, am_ow0_X5_leave, (fun _ => ⟨⟨rfl, rfl, rfl, by decide +kernel, by decide +kernel, by decide +kernel⟩, rfl, rfl, by decide +kernel⟩)⟩
theorem am_ok0_X5_kin : am_r0_X5_kin.all (am_ok AM_X5_kin) = true := by decide +kernel
set_option maxRecDepth 100000 in
theorem am_ow0_X5_kin : am_okws AM_X5_kin am_r0_X5_kin := ⟨trivial, trivial, trivial, rfl, trivial, trivial, trivial, trivial, rfl, trivial, trivial, trivial, trivial, trivial, trivial, trivial, rfl, trivial, trivial, trivial, rfl, trivial, rfl, trivial, trivial, trivial, rfl, trivial, rfl, rfl, trivial, trivial⟩
set_option maxRecDepth 100000 in
theorem am_okr_X5_kin : (am_rows AM_X5_kin).all (am_ok AM_X5_kin) = true ∧ (am_okws AM_X5_kin (am_rows AM_X5_kin) ∧ am_okm AM_X5_kin) := ⟨am_ok0_X5_kin, am_ow0_X5_kin, (fun _ => ⟨⟨rfl, rfl, rfl, by decide +kernel, by decide +kernel, by decide +kernel⟩, rfl, rfl, by decide +kernel⟩)⟩
theorem am_ok0_X5_stair : am_r0_X5_stair.all (am_ok AM_X5_stair) = true := by decide +kernel
set_option maxRecDepth 100000 in
theorem am_ow0_X5_stair : am_okws AM_X5_stair am_r0_X5_stair := ⟨trivial, trivial, trivial, rfl, trivial, trivial, trivial, trivial, rfl, trivial, trivial, rfl, trivial, trivial, trivial, trivial, trivial, rfl, trivial, trivial, trivial, trivial, rfl, trivial, rfl, trivial, trivial, trivial, trivial, rfl, trivial, rfl, rfl, trivial, trivial, rfl, trivial, rfl, rfl, trivial, trivial, rfl, trivial, rfl, rfl, trivial, trivial, rfl, trivial, rfl, rfl, rfl, trivial, trivial⟩
set_option maxRecDepth 100000 in
theorem am_okr_X5_stair : (am_rows AM_X5_stair).all (am_ok AM_X5_stair) = true ∧ (am_okws AM_X5_stair (am_rows AM_X5_stair) ∧ am_okm AM_X5_stair) := ⟨am_ok0_X5_stair, am_ow0_X5_stair, (fun _ => ⟨⟨rfl, rfl, rfl, by decide +kernel, by decide +kernel, by decide +kernel⟩, rfl, rfl, by decide +kernel⟩)⟩
theorem am_ok0_X5_say : am_r0_X5_say.all (am_ok AM_X5_say) = true := by decide +kernel
set_option maxRecDepth 100000 in
theorem am_ow0_X5_say : am_okws AM_X5_say am_r0_X5_say := ⟨trivial, trivial, trivial, rfl, trivial, trivial, trivial, trivial, rfl, trivial, rfl, trivial, trivial, rfl, rfl, trivial, trivial, trivial, trivial⟩
set_option maxRecDepth 100000 in
theorem am_okr_X5_say : (am_rows AM_X5_say).all (am_ok AM_X5_say) = true ∧ (am_okws AM_X5_say (am_rows AM_X5_say) ∧ am_okm AM_X5_say) := ⟨am_ok0_X5_say, am_ow0_X5_say, (fun _ => ⟨⟨rfl, rfl, rfl, by decide +kernel, by decide +kernel, by decide +kernel⟩, rfl, rfl, by decide +kernel⟩)⟩
theorem am_ok0_X5_wipe : am_r0_X5_wipe.all (am_ok AM_X5_wipe) = true := by decide +kernel
set_option maxRecDepth 100000 in
theorem am_ow0_X5_wipe : am_okws AM_X5_wipe am_r0_X5_wipe := ⟨trivial, rfl, rfl, trivial, trivial, rfl, trivial, rfl, trivial, trivial, trivial⟩
set_option maxRecDepth 100000 in
theorem am_okr_X5_wipe : (am_rows AM_X5_wipe).all (am_ok AM_X5_wipe) = true ∧ (am_okws AM_X5_wipe (am_rows AM_X5_wipe) ∧ am_okm AM_X5_wipe) := ⟨am_ok0_X5_wipe, am_ow0_X5_wipe, (fun _ => ⟨⟨rfl, rfl, rfl, by decide +kernel, by decide +kernel, by decide +kernel⟩, rfl, rfl, by decide +kernel⟩)⟩
theorem am_ok0_X5_fault : am_r0_X5_fault.all (am_ok AM_X5_fault) = true := by decide +kernel
set_option maxRecDepth 100000 in
theorem am_ow0_X5_fault : am_okws AM_X5_fault am_r0_X5_fault := ⟨trivial, rfl, rfl, trivial, trivial⟩
set_option maxRecDepth 100000 in
theorem am_okr_X5_fault : (am_rows AM_X5_fault).all (am_ok AM_X5_fault) = true ∧ (am_okws AM_X5_fault (am_rows AM_X5_fault) ∧ am_okm AM_X5_fault) := ⟨am_ok0_X5_fault, am_ow0_X5_fault, (fun _ => ⟨⟨rfl, rfl, rfl, by decide +kernel, by decide +kernel, by decide +kernel⟩, rfl, rfl, by decide +kernel⟩)⟩
theorem am_ok0_X5_judge : am_r0_X5_judge.all (am_ok AM_X5_judge) = true := by decide +kernel
set_option maxRecDepth 100000 in
theorem am_ow0_X5_judge : am_okws AM_X5_judge am_r0_X5_judge := ⟨trivial, trivial, trivial, rfl, trivial, trivial, trivial, trivial, rfl, rfl, trivial, trivial, trivial, trivial, trivial, rfl, trivial, rfl, trivial, rfl, rfl, trivial, trivial, trivial, trivial, rfl, rfl, trivial, trivial, rfl, rfl, trivial, trivial⟩
set_option maxRecDepth 100000 in
theorem am_okr_X5_judge : (am_rows AM_X5_judge).all (am_ok AM_X5_judge) = true ∧ (am_okws AM_X5_judge (am_rows AM_X5_judge) ∧ am_okm AM_X5_judge) := ⟨am_ok0_X5_judge, am_ow0_X5_judge, (fun _ => ⟨⟨rfl, rfl, rfl, by decide +kernel, by decide +kernel, by decide +kernel⟩, rfl, rfl, by decide +kernel⟩)⟩
theorem am_ok0_X5_done : am_r0_X5_done.all (am_ok AM_X5_done) = true := by decide +kernel
set_option maxRecDepth 100000 in
theorem am_ow0_X5_done : am_okws AM_X5_done am_r0_X5_done := ⟨trivial, rfl, trivial, rfl, trivial, rfl, rfl, trivial, trivial, trivial, trivial, rfl, trivial, rfl, rfl, rfl, trivial, rfl, trivial, rfl, trivial, rfl, rfl, trivial, trivial⟩
set_option maxRecDepth 100000 in
theorem am_okr_X5_done : (am_rows AM_X5_done).all (am_ok AM_X5_done) = true ∧ (am_okws AM_X5_done (am_rows AM_X5_done) ∧ am_okm AM_X5_done) := ⟨am_ok0_X5_done, am_ow0_X5_done, (fun _ => ⟨⟨rfl, rfl, rfl, by decide +kernel, by decide +kernel, by decide +kernel⟩, rfl, rfl, by decide +kernel⟩)⟩
theorem am_ok0_X5_behind : am_r0_X5_behind.all (am_ok AM_X5_behind) = true := by decide +kernel
set_option maxRecDepth 100000 in
theorem am_ow0_X5_behind : am_okws AM_X5_behind am_r0_X5_behind := ⟨trivial, rfl, trivial, rfl, trivial, trivial, trivial, trivial, trivial, trivial, rfl, trivial, trivial, trivial, trivial, rfl, trivial, rfl, trivial, rfl, rfl, trivial, trivial, trivial, trivial, trivial, trivial, rfl, rfl, rfl, trivial, rfl, trivial, trivial, rfl, rfl, rfl, trivial, rfl, trivial, trivial⟩
set_option maxRecDepth 100000 in
theorem am_okr_X5_behind : (am_rows AM_X5_behind).all (am_ok AM_X5_behind) = true ∧ (am_okws AM_X5_behind (am_rows AM_X5_behind) ∧ am_okm AM_X5_behind) := ⟨am_ok0_X5_behind, am_ow0_X5_behind, (fun _ => ⟨⟨rfl, rfl, rfl, by decide +kernel, by decide +kernel, by decide +kernel⟩, rfl, rfl, by decide +kernel⟩)⟩
theorem am_ok0_X5_wall : am_r0_X5_wall.all (am_ok AM_X5_wall) = true := by decide +kernel
set_option maxRecDepth 100000 in
theorem am_ow0_X5_wall : am_okws AM_X5_wall am_r0_X5_wall := ⟨trivial, trivial, trivial, rfl, trivial, trivial, trivial, trivial, trivial, trivial, rfl, trivial, trivial, trivial, trivial, rfl, trivial, rfl, trivial, rfl, rfl, trivial, trivial, trivial, trivial, rfl, rfl, trivial, rfl, trivial, trivial, rfl, rfl, trivial, trivial, rfl, trivial, trivial, trivial, trivial⟩
set_option maxRecDepth 100000 in
theorem am_okr_X5_wall : (am_rows AM_X5_wall).all (am_ok AM_X5_wall) = true ∧ (am_okws AM_X5_wall (am_rows AM_X5_wall) ∧ am_okm AM_X5_wall) := ⟨am_ok0_X5_wall, am_ow0_X5_wall, (fun _ => ⟨⟨rfl, rfl, rfl, by decide +kernel, by decide +kernel, by decide +kernel⟩, rfl, rfl, by decide +kernel⟩)⟩
theorem am_ok0_X5_fell : am_r0_X5_fell.all (am_ok AM_X5_fell) = true := by decide +kernel
set_option maxRecDepth 100000 in
theorem am_ow0_X5_fell : am_okws AM_X5_fell am_r0_X5_fell := ⟨trivial, trivial, trivial, rfl, trivial, trivial, trivial, trivial, rfl, trivial, rfl, trivial, rfl, rfl, trivial, trivial, trivial, trivial, trivial, trivial, rfl, rfl, trivial, trivial, rfl, rfl, trivial, trivial, rfl, rfl, trivial, trivial, rfl, rfl, rfl, trivial, trivial⟩
set_option maxRecDepth 100000 in
theorem am_okr_X5_fell : (am_rows AM_X5_fell).all (am_ok AM_X5_fell) = true ∧ (am_okws AM_X5_fell (am_rows AM_X5_fell) ∧ am_okm AM_X5_fell) := ⟨am_ok0_X5_fell, am_ow0_X5_fell, (fun _ => ⟨⟨rfl, rfl, rfl, by decide +kernel, by decide +kernel, by decide +kernel⟩, rfl, rfl, by decide +kernel⟩)⟩
theorem am_ok0_X5_bears : am_r0_X5_bears.all (am_ok AM_X5_bears) = true := by decide +kernel
set_option maxRecDepth 100000 in
theorem am_ow0_X5_bears : am_okws AM_X5_bears am_r0_X5_bears := ⟨trivial, rfl, trivial, rfl, trivial, trivial, rfl, trivial, rfl, trivial, trivial, trivial, trivial⟩
set_option maxRecDepth 100000 in
theorem am_okr_X5_bears : (am_rows AM_X5_bears).all (am_ok AM_X5_bears) = true ∧ (am_okws AM_X5_bears (am_rows AM_X5_bears) ∧ am_okm AM_X5_bears) := ⟨am_ok0_X5_bears, am_ow0_X5_bears, (fun _ => ⟨⟨rfl, rfl, rfl, by decide +kernel, by decide +kernel, by decide +kernel⟩, rfl, rfl, by decide +kernel⟩)⟩
theorem am_ok0_X5_all : am_r0_X5_all.all (am_ok AM_X5_all) = true := by decide +kernel
set_option maxRecDepth 100000 in
theorem am_ow0_X5_all : am_okws AM_X5_all am_r0_X5_all := ⟨trivial, rfl, trivial, rfl, trivial, trivial, trivial, trivial, trivial, trivial, rfl, trivial, trivial, trivial, trivial, rfl, trivial, rfl, trivial, trivial, trivial, trivial, rfl, trivial, trivial, trivial, trivial, trivial, trivial, rfl, trivial, trivial, trivial, trivial, trivial, trivial⟩
set_option maxRecDepth 100000 in
theorem am_okr_X5_all : (am_rows AM_X5_all).all (am_ok AM_X5_all) = true ∧ (am_okws AM_X5_all (am_rows AM_X5_all) ∧ am_okm AM_X5_all) := ⟨am_ok0_X5_all, am_ow0_X5_all, (fun _ => ⟨⟨rfl, rfl, rfl, by decide +kernel, by decide +kernel, by decide +kernel⟩, rfl, rfl, by decide +kernel⟩)⟩
theorem am_ok0_X5_wedges : am_r0_X5_wedges.all (am_ok AM_X5_wedges) = true := by decide +kernel
set_option maxRecDepth 100000 in
theorem am_ow0_X5_wedges : am_okws AM_X5_wedges am_r0_X5_wedges := ⟨trivial, rfl, trivial, rfl, trivial, trivial, rfl, trivial, rfl, trivial, trivial, trivial, trivial, trivial, trivial, rfl, trivial, trivial, trivial, trivial, rfl, trivial, rfl, trivial, trivial, trivial, trivial, trivial, trivial, rfl, rfl, trivial, rfl, trivial, trivial, trivial, trivial, trivial, rfl, trivial, trivial, trivial, trivial, trivial, trivial, trivial, trivial, rfl, trivial, trivial, trivial, trivial, trivial, trivial⟩
set_option maxRecDepth 100000 in
theorem am_okr_X5_wedges : (am_rows AM_X5_wedges).all (am_ok AM_X5_wedges) = true ∧ (am_okws AM_X5_wedges (am_rows AM_X5_wedges) ∧ am_okm AM_X5_wedges) := ⟨am_ok0_X5_wedges, am_ow0_X5_wedges, (fun _ => ⟨⟨rfl, rfl, rfl, by decide +kernel, by decide +kernel, by decide +kernel⟩, rfl, rfl, by decide +kernel⟩)⟩
theorem am_ok0_X5_meet : am_r0_X5_meet.all (am_ok AM_X5_meet) = true := by decide +kernel
set_option maxRecDepth 100000 in
theorem am_ow0_X5_meet : am_okws AM_X5_meet am_r0_X5_meet := ⟨trivial, rfl, trivial, rfl, trivial, trivial, rfl, trivial, rfl, trivial, trivial, trivial, trivial, trivial, trivial, rfl, trivial, trivial, trivial, trivial, rfl, trivial, trivial, trivial, trivial, trivial, trivial, trivial, trivial, trivial, trivial, rfl, trivial, trivial, trivial, trivial, trivial, trivial, trivial, trivial, trivial, trivial, trivial, rfl, trivial, trivial, trivial, trivial, trivial, trivial, trivial, trivial, trivial, trivial, trivial, trivial, trivial, trivial, trivial, trivial, trivial⟩
set_option maxRecDepth 100000 in
theorem am_okr_X5_meet : (am_rows AM_X5_meet).all (am_ok AM_X5_meet) = true ∧ (am_okws AM_X5_meet (am_rows AM_X5_meet) ∧ am_okm AM_X5_meet) := ⟨am_ok0_X5_meet, am_ow0_X5_meet, (fun _ => ⟨⟨rfl, rfl, rfl, by decide +kernel, by decide +kernel, by decide +kernel⟩, rfl, rfl, by decide +kernel⟩)⟩
theorem am_ok0_X5_ways : am_r0_X5_ways.all (am_ok AM_X5_ways) = true := by decide +kernel
set_option maxRecDepth 100000 in
theorem am_ow0_X5_ways : am_okws AM_X5_ways am_r0_X5_ways := ⟨trivial, rfl, trivial, rfl, trivial, trivial, trivial, trivial, rfl, trivial, trivial, rfl, trivial, trivial, trivial, trivial, rfl, trivial, trivial, trivial, trivial, trivial, trivial, trivial, trivial, trivial, trivial, trivial, trivial, trivial, trivial, trivial, trivial, trivial, trivial, trivial, trivial, trivial, trivial, rfl, trivial, trivial, rfl, trivial, trivial, trivial, rfl, trivial, trivial, trivial, trivial, trivial, trivial, rfl, trivial, trivial, trivial, trivial, rfl, trivial, trivial⟩
theorem am_ok1_X5_ways : am_r1_X5_ways.all (am_ok AM_X5_ways) = true := by decide +kernel
set_option maxRecDepth 100000 in
theorem am_ow1_X5_ways : am_okws AM_X5_ways am_r1_X5_ways := ⟨trivial, rfl, trivial, trivial, trivial, trivial, trivial, trivial, trivial, trivial⟩
set_option maxRecDepth 100000 in
theorem am_okr_X5_ways : (am_rows AM_X5_ways).all (am_ok AM_X5_ways) = true ∧ (am_okws AM_X5_ways (am_rows AM_X5_ways) ∧ am_okm AM_X5_ways) := ⟨am_all_app am_ok0_X5_ways am_ok1_X5_ways, am_okws_app am_ow0_X5_ways am_ow1_X5_ways, (fun _ => ⟨⟨rfl, rfl, rfl, by decide +kernel, by decide +kernel, by decide +kernel⟩, rfl, rfl, by decide +kernel⟩)⟩
theorem am_ok0_X5_reach : am_r0_X5_reach.all (am_ok AM_X5_reach) = true := by decide +kernel
set_option maxRecDepth 100000 in
theorem am_ow0_X5_reach : am_okws AM_X5_reach am_r0_X5_reach := ⟨trivial, rfl, trivial, rfl, trivial, trivial, trivial, trivial, rfl, trivial, trivial, trivial, trivial, trivial, trivial, trivial, trivial, trivial, trivial, trivial, trivial, trivial, rfl, trivial, trivial, rfl, trivial, trivial, trivial, trivial, trivial, trivial⟩
set_option maxRecDepth 100000 in
theorem am_okr_X5_reach : (am_rows AM_X5_reach).all (am_ok AM_X5_reach) = true ∧ (am_okws AM_X5_reach (am_rows AM_X5_reach) ∧ am_okm AM_X5_reach) := ⟨am_ok0_X5_reach, am_ow0_X5_reach, (fun _ => ⟨⟨rfl, rfl, rfl, by decide +kernel, by decide +kernel, by decide +kernel⟩, rfl, rfl, by decide +kernel⟩)⟩
theorem am_ok0_X5_seen : am_r0_X5_seen.all (am_ok AM_X5_seen) = true := by decide +kernel
set_option maxRecDepth 100000 in
theorem am_ow0_X5_seen : am_okws AM_X5_seen am_r0_X5_seen := ⟨trivial, rfl, trivial, trivial, trivial, trivial, rfl, trivial, trivial, trivial, trivial, rfl, rfl, trivial, trivial, trivial, trivial, trivial, rfl, trivial, rfl, trivial, trivial, rfl, trivial, rfl, trivial, rfl, trivial, rfl, trivial, trivial, rfl, trivial, rfl, rfl, trivial, trivial⟩
set_option maxRecDepth 100000 in
theorem am_okr_X5_seen : (am_rows AM_X5_seen).all (am_ok AM_X5_seen) = true ∧ (am_okws AM_X5_seen (am_rows AM_X5_seen) ∧ am_okm AM_X5_seen) := ⟨am_ok0_X5_seen, am_ow0_X5_seen, (fun _ => ⟨⟨rfl, rfl, rfl, by decide +kernel, by decide +kernel, by decide +kernel⟩, rfl, rfl, by decide +kernel⟩)⟩
theorem am_ok0_X5_forget : am_r0_X5_forget.all (am_ok AM_X5_forget) = true := by decide +kernel
set_option maxRecDepth 100000 in
theorem am_ow0_X5_forget : am_okws AM_X5_forget am_r0_X5_forget := ⟨trivial, rfl, rfl, trivial, trivial, rfl, trivial, rfl, trivial, rfl, rfl, rfl, trivial, trivial, trivial⟩
set_option maxRecDepth 100000 in
theorem am_okr_X5_forget : (am_rows AM_X5_forget).all (am_ok AM_X5_forget) = true ∧ (am_okws AM_X5_forget (am_rows AM_X5_forget) ∧ am_okm AM_X5_forget) := ⟨am_ok0_X5_forget, am_ow0_X5_forget, (fun _ => ⟨⟨rfl, rfl, rfl, by decide +kernel, by decide +kernel, by decide +kernel⟩, rfl, rfl, by decide +kernel⟩)⟩
theorem am_ok0_X5_downs : am_r0_X5_downs.all (am_ok AM_X5_downs) = true := by decide +kernel
set_option maxRecDepth 100000 in
theorem am_ow0_X5_downs : am_okws AM_X5_downs am_r0_X5_downs := ⟨trivial, trivial, trivial, trivial, rfl, rfl, rfl, trivial, trivial, trivial, trivial, trivial, trivial, trivial, trivial, trivial, rfl, rfl, trivial, trivial, trivial, rfl, trivial, trivial, trivial, trivial, trivial, trivial, trivial, trivial, trivial, trivial, trivial, trivial, trivial⟩
set_option maxRecDepth 100000 in
theorem am_okr_X5_downs : (am_rows AM_X5_downs).all (am_ok AM_X5_downs) = true ∧ (am_okws AM_X5_downs (am_rows AM_X5_downs) ∧ am_okm AM_X5_downs) := ⟨am_ok0_X5_downs, am_ow0_X5_downs, (fun _ => ⟨⟨rfl, rfl, rfl, by decide +kernel, by decide +kernel, by decide +kernel⟩, rfl, rfl, by decide +kernel⟩)⟩
theorem am_ok0_X5_next : am_r0_X5_next.all (am_ok AM_X5_next) = true := by decide +kernel
set_option maxRecDepth 100000 in
theorem am_ow0_X5_next : am_okws AM_X5_next am_r0_X5_next := ⟨trivial, trivial, trivial, rfl, trivial, trivial, trivial, trivial, rfl, rfl, trivial, trivial, trivial, trivial, trivial, trivial, trivial, trivial, trivial, trivial, trivial, trivial, trivial, trivial, rfl, trivial, trivial, rfl, trivial, trivial, trivial, trivial, trivial, trivial, trivial, trivial, trivial, trivial, trivial, trivial, trivial, rfl, trivial, trivial⟩
set_option maxRecDepth 100000 in
theorem am_okr_X5_next : (am_rows AM_X5_next).all (am_ok AM_X5_next) = true ∧ (am_okws AM_X5_next (am_rows AM_X5_next) ∧ am_okm AM_X5_next) := ⟨am_ok0_X5_next, am_ow0_X5_next, (fun _ => ⟨⟨rfl, rfl, rfl, by decide +kernel, by decide +kernel, by decide +kernel⟩, rfl, rfl, by decide +kernel⟩)⟩
theorem am_ok0_X5_settle : am_r0_X5_settle.all (am_ok AM_X5_settle) = true := by decide +kernel
set_option maxRecDepth 100000 in
theorem am_ow0_X5_settle : am_okws AM_X5_settle am_r0_X5_settle := ⟨trivial, rfl, trivial, rfl, trivial, trivial, trivial, trivial, trivial, trivial, rfl, trivial, trivial, trivial, trivial, rfl, trivial, rfl, rfl, trivial, trivial, trivial, trivial, trivial, trivial, rfl, trivial, rfl, rfl, trivial, trivial, trivial, rfl, rfl, trivial, rfl, trivial, trivial⟩
set_option maxRecDepth 100000 in
theorem am_okr_X5_settle : (am_rows AM_X5_settle).all (am_ok AM_X5_settle) = true ∧ (am_okws AM_X5_settle (am_rows AM_X5_settle) ∧ am_okm AM_X5_settle) := ⟨am_ok0_X5_settle, am_ow0_X5_settle, (fun _ => ⟨⟨rfl, rfl, rfl, by decide +kernel, by decide +kernel, by decide +kernel⟩, rfl, rfl, by decide +kernel⟩)⟩
theorem am_ok0_X5_again : am_r0_X5_again.all (am_ok AM_X5_again) = true := by decide +kernel
set_option maxRecDepth 100000 in
theorem am_ow0_X5_again : am_okws AM_X5_again am_r0_X5_again := ⟨trivial, trivial, trivial, rfl, trivial, trivial, trivial, trivial, rfl, trivial, rfl, rfl, trivial, trivial, trivial, rfl, rfl, trivial, trivial, rfl, rfl, trivial, rfl, rfl, trivial, trivial, trivial⟩
set_option maxRecDepth 100000 in
theorem am_okr_X5_again : (am_rows AM_X5_again).all (am_ok AM_X5_again) = true ∧ (am_okws AM_X5_again (am_rows AM_X5_again) ∧ am_okm AM_X5_again) := ⟨am_ok0_X5_again, am_ow0_X5_again, (fun _ => ⟨⟨rfl, rfl, rfl, by decide +kernel, by decide +kernel, by decide +kernel⟩, rfl, rfl, by decide +kernel⟩)⟩
theorem am_ok0_X5_climb : am_r0_X5_climb.all (am_ok AM_X5_climb) = true := by decide +kernel
set_option maxRecDepth 100000 in
theorem am_ow0_X5_climb : am_okws AM_X5_climb am_r0_X5_climb := ⟨trivial, trivial, trivial, rfl, trivial, trivial, trivial, trivial, rfl, trivial, trivial, trivial, trivial, rfl, trivial, trivial, trivial, trivial, rfl, trivial, trivial, trivial, trivial, rfl, trivial, trivial, trivial, trivial, rfl, trivial, rfl, trivial, trivial, trivial, trivial, trivial, trivial, trivial, trivial, trivial, trivial, trivial, trivial, trivial, trivial, trivial, trivial, trivial, trivial, trivial, rfl, trivial, trivial, trivial, trivial, trivial, trivial, trivial, trivial, trivial, trivial⟩
theorem am_ok1_X5_climb : am_r1_X5_climb.all (am_ok AM_X5_climb) = true := by decide +kernel
set_option maxRecDepth 100000 in
theorem am_ow1_X5_climb : am_okws AM_X5_climb am_r1_X5_climb := ⟨trivial, trivial, trivial, trivial, trivial, trivial, trivial, trivial, trivial, trivial, trivial, trivial, trivial, trivial, trivial, trivial, trivial, trivial, trivial, rfl, trivial, trivial, trivial, trivial, trivial, trivial, trivial, trivial, trivial, trivial, trivial, trivial, trivial, trivial, trivial, rfl, trivial, trivial⟩
set_option maxRecDepth 100000 in
theorem am_okr_X5_climb : (am_rows AM_X5_climb).all (am_ok AM_X5_climb) = true ∧ (am_okws AM_X5_climb (am_rows AM_X5_climb) ∧ am_okm AM_X5_climb) := ⟨am_all_app am_ok0_X5_climb am_ok1_X5_climb, am_okws_app am_ow0_X5_climb am_ow1_X5_climb, (fun _ => ⟨⟨rfl, rfl, rfl, by decide +kernel, by decide +kernel, by decide +kernel⟩, rfl, rfl, by decide +kernel⟩)⟩
theorem am_ok0_X5_book : am_r0_X5_book.all (am_ok AM_X5_book) = true := by decide +kernel
set_option maxRecDepth 100000 in
theorem am_ow0_X5_book : am_okws AM_X5_book am_r0_X5_book := ⟨trivial, trivial, trivial, rfl, trivial, trivial, trivial, trivial, rfl, trivial, trivial, trivial, trivial, rfl, trivial, trivial, trivial, trivial, rfl, trivial, trivial, trivial, rfl, rfl, trivial, trivial, trivial, rfl, rfl, rfl, rfl, trivial, trivial, trivial, trivial, trivial, rfl, rfl, trivial, trivial, rfl, rfl, rfl, trivial, trivial⟩
set_option maxRecDepth 100000 in
theorem am_okr_X5_book : (am_rows AM_X5_book).all (am_ok AM_X5_book) = true ∧ (am_okws AM_X5_book (am_rows AM_X5_book) ∧ am_okm AM_X5_book) := ⟨am_ok0_X5_book, am_ow0_X5_book, (fun _ => ⟨⟨rfl, rfl, rfl, by decide +kernel, by decide +kernel, by decide +kernel⟩, rfl, rfl, by decide +kernel⟩)⟩
theorem am_ok0_X5_image : am_r0_X5_image.all (am_ok AM_X5_image) = true := by decide +kernel
set_option maxRecDepth 100000 in
theorem am_ow0_X5_image : am_okws AM_X5_image am_r0_X5_image := ⟨trivial, trivial, trivial, rfl, trivial, trivial, trivial, trivial, trivial, rfl, trivial, rfl, rfl, trivial, trivial, rfl, trivial, trivial, trivial, trivial, rfl, trivial, trivial, trivial⟩
set_option maxRecDepth 100000 in
theorem am_okr_X5_image : (am_rows AM_X5_image).all (am_ok AM_X5_image) = true ∧ (am_okws AM_X5_image (am_rows AM_X5_image) ∧ am_okm AM_X5_image) := ⟨am_ok0_X5_image, am_ow0_X5_image, (fun _ => ⟨⟨rfl, rfl, rfl, by decide +kernel, by decide +kernel, by decide +kernel⟩, rfl, rfl, by decide +kernel⟩)⟩
theorem am_ok0_X5_restore : am_r0_X5_restore.all (am_ok AM_X5_restore) = true := by decide +kernel
set_option maxRecDepth 100000 in
theorem am_ow0_X5_restore : am_okws AM_X5_restore am_r0_X5_restore := ⟨trivial, trivial, trivial, rfl, trivial, trivial, trivial, trivial, rfl, trivial, rfl, trivial, trivial, trivial, trivial, rfl, trivial, trivial, rfl, rfl, trivial, trivial, trivial⟩
set_option maxRecDepth 100000 in
theorem am_okr_X5_restore : (am_rows AM_X5_restore).all (am_ok AM_X5_restore) = true ∧ (am_okws AM_X5_restore (am_rows AM_X5_restore) ∧ am_okm AM_X5_restore) := ⟨am_ok0_X5_restore, am_ow0_X5_restore, (fun _ => ⟨⟨rfl, rfl, rfl, by decide +kernel, by decide +kernel, by decide +kernel⟩, rfl, rfl, by decide +kernel⟩)⟩
theorem am_ok0_X5_told : am_r0_X5_told.all (am_ok AM_X5_told) = true := by decide +kernel
set_option maxRecDepth 100000 in
theorem am_ow0_X5_told : am_okws AM_X5_told am_r0_X5_told := ⟨trivial, trivial, trivial, trivial, trivial, rfl, trivial, trivial, trivial, trivial, trivial, trivial, trivial, trivial, trivial, trivial, rfl, rfl, trivial, trivial, trivial, rfl, trivial, trivial, trivial, trivial, trivial, trivial, trivial, trivial, trivial, trivial, trivial, trivial, trivial, trivial, trivial, trivial, trivial, rfl, trivial, trivial, trivial, trivial, trivial, trivial, trivial, trivial, trivial, trivial, trivial, trivial, trivial, rfl, trivial, trivial, trivial, trivial, trivial, rfl, trivial⟩
theorem am_ok1_X5_told : am_r1_X5_told.all (am_ok AM_X5_told) = true := by decide +kernel
set_option maxRecDepth 100000 in
theorem am_ow1_X5_told : am_okws AM_X5_told am_r1_X5_told := ⟨trivial, trivial⟩
set_option maxRecDepth 100000 in
theorem am_okr_X5_told : (am_rows AM_X5_told).all (am_ok AM_X5_told) = true ∧ (am_okws AM_X5_told (am_rows AM_X5_told) ∧ am_okm AM_X5_told) := ⟨am_all_app am_ok0_X5_told am_ok1_X5_told, am_okws_app am_ow0_X5_told am_ow1_X5_told, (fun _ => ⟨⟨rfl, rfl, rfl, by decide +kernel, by decide +kernel, by decide +kernel⟩, rfl, rfl, by decide +kernel⟩)⟩
theorem am_ok0_X5_isIn : am_r0_X5_isIn.all (am_ok AM_X5_isIn) = true := by decide +kernel
set_option maxRecDepth 100000 in
theorem am_ow0_X5_isIn : am_okws AM_X5_isIn am_r0_X5_isIn := ⟨trivial, trivial, trivial, trivial, trivial, trivial, trivial, trivial, trivial, trivial, trivial⟩
set_option maxRecDepth 100000 in
theorem am_okr_X5_isIn : (am_rows AM_X5_isIn).all (am_ok AM_X5_isIn) = true ∧ (am_okws AM_X5_isIn (am_rows AM_X5_isIn) ∧ am_okm AM_X5_isIn) := ⟨am_ok0_X5_isIn, am_ow0_X5_isIn, (fun _ => ⟨⟨rfl, rfl, rfl, by decide +kernel, by decide +kernel, by decide +kernel⟩, rfl, by decide +kernel⟩)⟩
theorem am_ok0_X5_isLean : am_r0_X5_isLean.all (am_ok AM_X5_isLean) = true := by decide +kernel
set_option maxRecDepth 100000 in
theorem am_ow0_X5_isLean : am_okws AM_X5_isLean am_r0_X5_isLean := ⟨trivial, trivial, trivial, rfl, trivial, trivial⟩
set_option maxRecDepth 100000 in
theorem am_okr_X5_isLean : (am_rows AM_X5_isLean).all (am_ok AM_X5_isLean) = true ∧ (am_okws AM_X5_isLean (am_rows AM_X5_isLean) ∧ am_okm AM_X5_isLean) := ⟨am_ok0_X5_isLean, am_ow0_X5_isLean, (fun _ => ⟨⟨rfl, rfl, rfl, by decide +kernel, by decide +kernel, by decide +kernel⟩, rfl, by decide +kernel⟩)⟩
theorem am_ok0_X5_isPlace : am_r0_X5_isPlace.all (am_ok AM_X5_isPlace) = true := by decide +kernel
set_option maxRecDepth 100000 in
theorem am_ow0_X5_isPlace : am_okws AM_X5_isPlace am_r0_X5_isPlace := ⟨trivial, trivial, trivial, rfl, trivial, trivial⟩
set_option maxRecDepth 100000 in
theorem am_okr_X5_isPlace : (am_rows AM_X5_isPlace).all (am_ok AM_X5_isPlace) = true ∧ (am_okws AM_X5_isPlace (am_rows AM_X5_isPlace) ∧ am_okm AM_X5_isPlace) := ⟨am_ok0_X5_isPlace, am_ow0_X5_isPlace, (fun _ => ⟨⟨rfl, rfl, rfl, by decide +kernel, by decide +kernel, by decide +kernel⟩, rfl, by decide +kernel⟩)⟩
theorem am_ok0_X5_has : am_r0_X5_has.all (am_ok AM_X5_has) = true := by decide +kernel
set_option maxRecDepth 100000 in
theorem am_ow0_X5_has : am_okws AM_X5_has am_r0_X5_has := ⟨trivial, trivial, trivial, trivial, trivial, trivial, trivial, trivial, trivial, trivial, trivial, trivial, trivial, trivial, trivial, trivial, trivial⟩
set_option maxRecDepth 100000 in
theorem am_okr_X5_has : (am_rows AM_X5_has).all (am_ok AM_X5_has) = true ∧ (am_okws AM_X5_has (am_rows AM_X5_has) ∧ am_okm AM_X5_has) := ⟨am_ok0_X5_has, am_ow0_X5_has, (fun _ => ⟨⟨rfl, rfl, rfl, by decide +kernel, by decide +kernel, by decide +kernel⟩, rfl, by decide +kernel⟩)⟩
theorem am_ok0_X5_leastOf : am_r0_X5_leastOf.all (am_ok AM_X5_leastOf) = true := by decide +kernel
set_option maxRecDepth 100000 in
theorem am_ow0_X5_leastOf : am_okws AM_X5_leastOf am_r0_X5_leastOf := ⟨trivial, trivial, trivial, trivial, trivial, trivial, trivial, rfl, trivial, trivial, trivial, trivial, trivial, trivial, trivial, trivial⟩
set_option maxRecDepth 100000 in
theorem am_okr_X5_leastOf : (am_rows AM_X5_leastOf).all (am_ok AM_X5_leastOf) = true ∧ (am_okws AM_X5_leastOf (am_rows AM_X5_leastOf) ∧ am_okm AM_X5_leastOf) := ⟨am_ok0_X5_leastOf, am_ow0_X5_leastOf, (fun _ => ⟨⟨rfl, rfl, rfl, by decide +kernel, by decide +kernel, by decide +kernel⟩, rfl, by decide +kernel⟩)⟩
theorem am_ok0_X5_nearestOf : am_r0_X5_nearestOf.all (am_ok AM_X5_nearestOf) = true := by decide +kernel
set_option maxRecDepth 100000 in
theorem am_ow0_X5_nearestOf : am_okws AM_X5_nearestOf am_r0_X5_nearestOf := ⟨trivial, rfl, trivial, trivial, trivial, trivial, trivial, trivial, trivial, trivial, trivial, trivial, rfl, trivial, trivial, trivial, trivial, rfl, trivial, trivial, trivial, rfl, trivial, trivial, trivial, trivial, trivial, trivial, trivial, trivial⟩
set_option maxRecDepth 100000 in
theorem am_okr_X5_nearestOf : (am_rows AM_X5_nearestOf).all (am_ok AM_X5_nearestOf) = true ∧ (am_okws AM_X5_nearestOf (am_rows AM_X5_nearestOf) ∧ am_okm AM_X5_nearestOf) := ⟨am_ok0_X5_nearestOf, am_ow0_X5_nearestOf, (fun _ => ⟨⟨rfl, rfl, rfl, by decide +kernel, by decide +kernel, by decide +kernel⟩, rfl, by decide +kernel⟩)⟩
theorem am_ok0_X5_downsThat : am_r0_X5_downsThat.all (am_ok AM_X5_downsThat) = true := by decide +kernel
set_option maxRecDepth 100000 in
theorem am_ow0_X5_downsThat : am_okws AM_X5_downsThat am_r0_X5_downsThat := ⟨trivial, trivial, trivial, trivial, trivial, trivial, trivial, trivial, trivial, trivial, trivial, trivial, trivial, trivial, trivial, trivial, trivial, trivial, trivial, rfl, trivial, trivial, trivial, trivial, trivial, trivial, trivial, trivial⟩
set_option maxRecDepth 100000 in
theorem am_okr_X5_downsThat : (am_rows AM_X5_downsThat).all (am_ok AM_X5_downsThat) = true ∧ (am_okws AM_X5_downsThat (am_rows AM_X5_downsThat) ∧ am_okm AM_X5_downsThat) := ⟨am_ok0_X5_downsThat, am_ow0_X5_downsThat, (fun _ => ⟨⟨rfl, rfl, rfl, by decide +kernel, by decide +kernel, by decide +kernel⟩, rfl, by decide +kernel⟩)⟩
theorem am_ok0_X5_mostLeftBy : am_r0_X5_mostLeftBy.all (am_ok AM_X5_mostLeftBy) = true := by decide +kernel
set_option maxRecDepth 100000 in
theorem am_ow0_X5_mostLeftBy : am_okws AM_X5_mostLeftBy am_r0_X5_mostLeftBy := ⟨trivial, trivial, trivial, trivial, trivial, trivial, trivial, trivial, trivial, rfl, rfl, trivial, trivial, rfl, trivial, rfl, rfl, trivial, trivial, trivial, trivial, trivial, trivial⟩
set_option maxRecDepth 100000 in
theorem am_okr_X5_mostLeftBy : (am_rows AM_X5_mostLeftBy).all (am_ok AM_X5_mostLeftBy) = true ∧ (am_okws AM_X5_mostLeftBy (am_rows AM_X5_mostLeftBy) ∧ am_okm AM_X5_mostLeftBy) := ⟨am_ok0_X5_mostLeftBy, am_ow0_X5_mostLeftBy, (fun _ => ⟨⟨rfl, rfl, rfl, by decide +kernel, by decide +kernel, by decide +kernel⟩, rfl, rfl, by decide +kernel⟩)⟩
theorem am_ok0_X5_stepBehind : am_r0_X5_stepBehind.all (am_ok AM_X5_stepBehind) = true := by decide +kernel
set_option maxRecDepth 100000 in
theorem am_ow0_X5_stepBehind : am_okws AM_X5_stepBehind am_r0_X5_stepBehind := ⟨trivial, trivial, rfl, trivial, rfl, trivial, trivial, trivial, trivial, trivial, rfl, trivial, rfl, trivial, trivial, rfl, trivial, trivial⟩
set_option maxRecDepth 100000 in
theorem am_okr_X5_stepBehind : (am_rows AM_X5_stepBehind).all (am_ok AM_X5_stepBehind) = true ∧ (am_okws AM_X5_stepBehind (am_rows AM_X5_stepBehind) ∧ am_okm AM_X5_stepBehind) := ⟨am_ok0_X5_stepBehind, am_ow0_X5_stepBehind, (fun _ => ⟨⟨rfl, rfl, rfl, by decide +kernel, by decide +kernel, by decide +kernel⟩, rfl, rfl, by decide +kernel⟩)⟩
theorem am_ok0_X5_lowestTerm : am_r0_X5_lowestTerm.all (am_ok AM_X5_lowestTerm) = true := by decide +kernel
set_option maxRecDepth 100000 in
theorem am_ow0_X5_lowestTerm : am_okws AM_X5_lowestTerm am_r0_X5_lowestTerm := ⟨trivial, trivial, rfl, trivial, trivial, trivial, trivial, trivial, trivial, trivial, trivial, trivial, trivial, trivial, trivial, trivial, trivial, trivial, trivial, trivial, trivial⟩
set_option maxRecDepth 100000 in
theorem am_okr_X5_lowestTerm : (am_rows AM_X5_lowestTerm).all (am_ok AM_X5_lowestTerm) = true ∧ (am_okws AM_X5_lowestTerm (am_rows AM_X5_lowestTerm) ∧ am_okm AM_X5_lowestTerm) := ⟨am_ok0_X5_lowestTerm, am_ow0_X5_lowestTerm, (fun _ => ⟨⟨rfl, rfl, rfl, by decide +kernel, by decide +kernel, by decide +kernel⟩, rfl, by decide +kernel⟩)⟩
theorem am_ok0_X5_commonDivisor : am_r0_X5_commonDivisor.all (am_ok AM_X5_commonDivisor) = true := by decide +kernel
set_option maxRecDepth 100000 in
theorem am_ow0_X5_commonDivisor : am_okws AM_X5_commonDivisor am_r0_X5_commonDivisor := ⟨trivial, trivial, trivial, trivial, trivial, trivial, trivial, trivial, trivial, trivial, trivial, trivial, trivial, trivial, trivial, trivial, trivial, trivial, trivial, trivial, trivial, trivial, trivial, trivial, trivial, trivial⟩
set_option maxRecDepth 100000 in
theorem am_okr_X5_commonDivisor : (am_rows AM_X5_commonDivisor).all (am_ok AM_X5_commonDivisor) = true ∧ (am_okws AM_X5_commonDivisor (am_rows AM_X5_commonDivisor) ∧ am_okm AM_X5_commonDivisor) := ⟨am_ok0_X5_commonDivisor, am_ow0_X5_commonDivisor, (fun _ => ⟨⟨rfl, rfl, rfl, by decide +kernel, by decide +kernel, by decide +kernel⟩, rfl, by decide +kernel⟩)⟩
theorem am_ok0_X5_imageAt : am_r0_X5_imageAt.all (am_ok AM_X5_imageAt) = true := by decide +kernel
set_option maxRecDepth 100000 in
theorem am_ow0_X5_imageAt : am_okws AM_X5_imageAt am_r0_X5_imageAt := ⟨trivial, trivial, trivial, rfl, trivial, trivial, rfl, trivial, trivial⟩
set_option maxRecDepth 100000 in
theorem am_okr_X5_imageAt : (am_rows AM_X5_imageAt).all (am_ok AM_X5_imageAt) = true ∧ (am_okws AM_X5_imageAt (am_rows AM_X5_imageAt) ∧ am_okm AM_X5_imageAt) := ⟨am_ok0_X5_imageAt, am_ow0_X5_imageAt, (fun _ => ⟨⟨rfl, rfl, rfl, by decide +kernel, by decide +kernel, by decide +kernel⟩, rfl, rfl, by decide +kernel⟩)⟩
theorem am_ok0_X5_toldOfAll : am_r0_X5_toldOfAll.all (am_ok AM_X5_toldOfAll) = true := by decide +kernel
set_option maxRecDepth 100000 in
theorem am_ow0_X5_toldOfAll : am_okws AM_X5_toldOfAll am_r0_X5_toldOfAll := ⟨trivial, trivial, trivial, rfl, rfl, trivial, trivial, rfl, rfl, trivial, trivial, rfl, rfl, trivial, trivial, rfl, rfl, trivial, trivial, rfl, rfl, trivial, trivial, rfl, rfl, trivial, trivial, rfl, rfl, trivial, trivial, trivial, trivial⟩
set_option maxRecDepth 100000 in
theorem am_okr_X5_toldOfAll : (am_rows AM_X5_toldOfAll).all (am_ok AM_X5_toldOfAll) = true ∧ (am_okws AM_X5_toldOfAll (am_rows AM_X5_toldOfAll) ∧ am_okm AM_X5_toldOfAll) := ⟨am_ok0_X5_toldOfAll, am_ow0_X5_toldOfAll, (fun _ => ⟨⟨rfl, rfl, rfl, by decide +kernel, by decide +kernel, by decide +kernel⟩, rfl, rfl, by decide +kernel⟩)⟩
theorem am_ok0_X5_toldOfOne : am_r0_X5_toldOfOne.all (am_ok AM_X5_toldOfOne) = true := by decide +kernel
set_option maxRecDepth 100000 in
theorem am_ow0_X5_toldOfOne : am_okws AM_X5_toldOfOne am_r0_X5_toldOfOne := ⟨trivial, rfl, trivial, rfl, trivial, trivial, trivial, trivial, rfl, trivial, trivial, trivial, trivial, trivial, trivial, rfl, rfl, trivial, rfl, trivial, trivial, rfl, rfl, trivial, rfl, trivial, trivial⟩
set_option maxRecDepth 100000 in
theorem am_okr_X5_toldOfOne : (am_rows AM_X5_toldOfOne).all (am_ok AM_X5_toldOfOne) = true ∧ (am_okws AM_X5_toldOfOne (am_rows AM_X5_toldOfOne) ∧ am_okm AM_X5_toldOfOne) := ⟨am_ok0_X5_toldOfOne, am_ow0_X5_toldOfOne, (fun _ => ⟨⟨rfl, rfl, rfl, by decide +kernel, by decide +kernel, by decide +kernel⟩, rfl, rfl, by decide +kernel⟩)⟩
theorem am_ok0_X5_toldOfWall : am_r0_X5_toldOfWall.all (am_ok AM_X5_toldOfWall) = true := by decide +kernel
set_option maxRecDepth 100000 in
theorem am_ow0_X5_toldOfWall : am_okws AM_X5_toldOfWall am_r0_X5_toldOfWall := ⟨trivial, rfl, trivial, rfl, trivial, trivial, trivial, trivial, rfl, trivial, trivial, trivial, trivial, rfl, trivial, trivial, rfl, trivial, trivial⟩
set_option maxRecDepth 100000 in
theorem am_okr_X5_toldOfWall : (am_rows AM_X5_toldOfWall).all (am_ok AM_X5_toldOfWall) = true ∧ (am_okws AM_X5_toldOfWall (am_rows AM_X5_toldOfWall) ∧ am_okm AM_X5_toldOfWall) := ⟨am_ok0_X5_toldOfWall, am_ow0_X5_toldOfWall, (fun _ => ⟨⟨rfl, rfl, rfl, by decide +kernel, by decide +kernel, by decide +kernel⟩, rfl, rfl, by decide +kernel⟩)⟩
theorem am_ok0_X5_toldOfStair : am_r0_X5_toldOfStair.all (am_ok AM_X5_toldOfStair) = true := by decide +kernel
set_option maxRecDepth 100000 in
theorem am_ow0_X5_toldOfStair : am_okws AM_X5_toldOfStair am_r0_X5_toldOfStair := ⟨trivial, rfl, rfl, trivial, rfl, trivial, trivial, trivial, trivial, trivial, rfl, rfl, trivial, rfl, trivial, trivial, trivial, rfl, rfl, trivial, rfl, trivial, trivial, trivial, rfl, rfl, trivial, rfl, trivial, trivial, trivial, trivial, trivial⟩
set_option maxRecDepth 100000 in
theorem am_okr_X5_toldOfStair : (am_rows AM_X5_toldOfStair).all (am_ok AM_X5_toldOfStair) = true ∧ (am_okws AM_X5_toldOfStair (am_rows AM_X5_toldOfStair) ∧ am_okm AM_X5_toldOfStair) := ⟨am_ok0_X5_toldOfStair, am_ow0_X5_toldOfStair, (fun _ => ⟨⟨rfl, rfl, rfl, by decide +kernel, by decide +kernel, by decide +kernel⟩, rfl, rfl, by decide +kernel⟩)⟩
theorem am_ok0_X6_init : am_r0_X6_init.all (am_ok AM_X6_init) = true := by decide +kernel
set_option maxRecDepth 100000 in
theorem am_ow0_X6_init : am_okws AM_X6_init am_r0_X6_init := ⟨trivial, rfl, trivial, trivial, trivial, rfl, trivial, trivial, trivial, rfl, trivial, trivial, trivial, rfl, trivial, trivial, rfl, trivial, trivial, trivial, rfl, trivial, trivial, trivial, rfl, trivial, trivial, trivial, rfl, trivial, trivial, trivial, rfl, trivial, trivial, trivial, rfl, trivial, trivial, trivial, rfl, trivial, trivial, trivial, rfl, trivial, trivial, trivial, rfl, trivial, trivial, trivial, rfl, trivial, trivial, trivial, rfl, trivial, trivial, trivial, trivial⟩
theorem am_ok1_X6_init : am_r1_X6_init.all (am_ok AM_X6_init) = true := by decide +kernel
set_option maxRecDepth 100000 in
theorem am_ow1_X6_init : am_okws AM_X6_init am_r1_X6_init := ⟨rfl, trivial, rfl, trivial, trivial, trivial, trivial, rfl, trivial, trivial, trivial, trivial, trivial⟩
set_option maxRecDepth 100000 in
theorem am_okr_X6_init : (am_rows AM_X6_init).all (am_ok AM_X6_init) = true ∧ (am_okws AM_X6_init (am_rows AM_X6_init) ∧ am_okm AM_X6_init) := ⟨am_all_app am_ok0_X6_init am_ok1_X6_init, am_okws_app am_ow0_X6_init am_ow1_X6_init, (fun _ => ⟨⟨rfl, rfl, rfl, by decide +kernel, by decide +kernel, by decide +kernel⟩, rfl, rfl, rfl, by decide +kernel⟩)⟩
theorem am_ok0_X6_in : am_r0_X6_in.all (am_ok AM_X6_in) = true := by decide +kernel
set_option maxRecDepth 100000 in
theorem am_ow0_X6_in : am_okws AM_X6_in am_r0_X6_in := ⟨trivial, trivial, trivial, trivial, trivial, trivial, trivial, trivial, trivial, trivial, trivial⟩
set_option maxRecDepth 100000 in
theorem am_okr_X6_in : (am_rows AM_X6_in).all (am_ok AM_X6_in) = true ∧ (am_okws AM_X6_in (am_rows AM_X6_in) ∧ am_okm AM_X6_in) := ⟨am_ok0_X6_in, am_ow0_X6_in, (fun _ => ⟨⟨rfl, rfl, rfl, by decide +kernel, by decide +kernel, by decide +kernel⟩, rfl, by decide +kernel⟩)⟩
theorem am_ok0_X6_has : am_r0_X6_has.all (am_ok AM_X6_has) = true := by decide +kernel
set_option maxRecDepth 100000 in
theorem am_ow0_X6_has : am_okws AM_X6_has am_r0_X6_has := ⟨trivial, trivial, trivial, trivial, trivial, trivial, trivial, trivial, trivial, trivial, trivial, trivial⟩
set_option maxRecDepth 100000 in
theorem am_okr_X6_has : (am_rows AM_X6_has).all (am_ok AM_X6_has) = true ∧ (am_okws AM_X6_has (am_rows AM_X6_has) ∧ am_okm AM_X6_has) := ⟨am_ok0_X6_has, am_ow0_X6_has, (fun _ => ⟨⟨rfl, rfl, rfl, by decide +kernel, by decide +kernel, by decide +kernel⟩, rfl, by decide +kernel⟩)⟩
theorem am_ok0_X6_bits : am_r0_X6_bits.all (am_ok AM_X6_bits) = true := by decide +kernel
set_option maxRecDepth 100000 in
theorem am_ow0_X6_bits : am_okws AM_X6_bits am_r0_X6_bits := ⟨trivial, trivial, trivial, trivial, trivial, trivial, trivial, trivial, trivial, trivial, trivial, trivial, trivial, trivial, trivial, trivial, trivial, trivial, trivial, trivial⟩
set_option maxRecDepth 100000 in
theorem am_okr_X6_bits : (am_rows AM_X6_bits).all (am_ok AM_X6_bits) = true ∧ (am_okws AM_X6_bits (am_rows AM_X6_bits) ∧ am_okm AM_X6_bits) := ⟨am_ok0_X6_bits, am_ow0_X6_bits, (fun _ => ⟨⟨rfl, rfl, rfl, by decide +kernel, by decide +kernel, by decide +kernel⟩, rfl, by decide +kernel⟩)⟩
theorem am_ok0_X6_isThere : am_r0_X6_isThere.all (am_ok AM_X6_isThere) = true := by decide +kernel
set_option maxRecDepth 100000 in
theorem am_ow0_X6_isThere : am_okws AM_X6_isThere am_r0_X6_isThere := ⟨trivial, trivial, trivial, rfl, trivial, trivial, rfl, trivial, rfl, trivial, trivial, trivial, trivial, trivial, trivial⟩
set_option maxRecDepth 100000 in
theorem am_okr_X6_isThere : (am_rows AM_X6_isThere).all (am_ok AM_X6_isThere) = true ∧ (am_okws AM_X6_isThere (am_rows AM_X6_isThere) ∧ am_okm AM_X6_isThere) := ⟨am_ok0_X6_isThere, am_ow0_X6_isThere, (fun _ => ⟨⟨rfl, rfl, rfl, by decide +kernel, by decide +kernel, by decide +kernel⟩, rfl, rfl, by decide +kernel⟩)⟩
theorem am_ok0_X6_isLean : am_r0_X6_isLean.all (am_ok AM_X6_isLean) = true := by decide +kernel
set_option maxRecDepth 100000 in
theorem am_ow0_X6_isLean : am_okws AM_X6_isLean am_r0_X6_isLean := ⟨trivial, trivial, trivial, rfl, trivial, trivial⟩
set_option maxRecDepth 100000 in
theorem am_okr_X6_isLean : (am_rows AM_X6_isLean).all (am_ok AM_X6_isLean) = true ∧ (am_okws AM_X6_isLean (am_rows AM_X6_isLean) ∧ am_okm AM_X6_isLean) := ⟨am_ok0_X6_isLean, am_ow0_X6_isLean, (fun _ => ⟨⟨rfl, rfl, rfl, by decide +kernel, by decide +kernel, by decide +kernel⟩, rfl, by decide +kernel⟩)⟩
theorem am_ok0_X6_doesBear : am_r0_X6_doesBear.all (am_ok AM_X6_doesBear) = true := by decide +kernel
set_option maxRecDepth 100000 in
theorem am_ow0_X6_doesBear : am_okws AM_X6_doesBear am_r0_X6_doesBear := ⟨trivial, trivial, rfl, trivial, trivial, trivial, trivial, rfl, trivial, trivial, rfl, rfl, trivial, trivial⟩
set_option maxRecDepth 100000 in
theorem am_okr_X6_doesBear : (am_rows AM_X6_doesBear).all (am_ok AM_X6_doesBear) = true ∧ (am_okws AM_X6_doesBear (am_rows AM_X6_doesBear) ∧ am_okm AM_X6_doesBear) := ⟨am_ok0_X6_doesBear, am_ow0_X6_doesBear, (fun _ => ⟨⟨rfl, rfl, rfl, by decide +kernel, by decide +kernel, by decide +kernel⟩, rfl, rfl, by decide +kernel⟩)⟩
theorem am_ok0_X6_creed : am_r0_X6_creed.all (am_ok AM_X6_creed) = true := by decide +kernel
set_option maxRecDepth 100000 in
theorem am_ow0_X6_creed : am_okws AM_X6_creed am_r0_X6_creed := ⟨trivial, trivial, trivial, rfl, trivial, trivial, trivial, trivial, rfl, trivial, trivial, trivial, trivial, rfl, trivial, trivial, trivial, trivial, rfl, trivial, trivial, trivial, trivial, trivial, trivial, trivial, trivial⟩
set_option maxRecDepth 100000 in
theorem am_okr_X6_creed : (am_rows AM_X6_creed).all (am_ok AM_X6_creed) = true ∧ (am_okws AM_X6_creed (am_rows AM_X6_creed) ∧ am_okm AM_X6_creed) := ⟨am_ok0_X6_creed, am_ow0_X6_creed, (fun _ => ⟨⟨rfl, rfl, rfl, by decide +kernel, by decide +kernel, by decide +kernel⟩, rfl, rfl, by decide +kernel⟩)⟩
theorem am_ok0_X6_bear : am_r0_X6_bear.all (am_ok AM_X6_bear) = true := by decide +kernel
set_option maxRecDepth 100000 in
theorem am_ow0_X6_bear : am_okws AM_X6_bear am_r0_X6_bear := ⟨trivial, trivial, trivial, rfl, trivial, trivial, trivial, trivial, rfl, trivial, trivial, trivial, rfl, trivial, trivial, trivial⟩
set_option maxRecDepth 100000 in
theorem am_okr_X6_bear : (am_rows AM_X6_bear).all (am_ok AM_X6_bear) = true ∧ (am_okws AM_X6_bear (am_rows AM_X6_bear) ∧ am_okm AM_X6_bear) := ⟨am_ok0_X6_bear, am_ow0_X6_bear, (fun _ => ⟨⟨rfl, rfl, rfl, by decide +kernel, by decide +kernel, by decide +kernel⟩, rfl, rfl, by decide +kernel⟩)⟩
theorem am_ok0_X6_one : am_r0_X6_one.all (am_ok AM_X6_one) = true := by decide +kernel
set_option maxRecDepth 100000 in
theorem am_ow0_X6_one : am_okws AM_X6_one am_r0_X6_one := ⟨trivial, trivial, trivial, rfl, trivial, trivial, trivial, trivial, trivial, trivial, rfl, trivial, trivial, trivial, trivial, rfl, trivial, trivial, trivial, trivial, trivial, rfl, trivial, trivial, trivial, trivial, rfl, trivial, rfl, trivial, trivial, trivial, trivial, rfl, trivial, trivial, trivial, trivial, trivial, trivial, rfl, rfl, trivial, trivial⟩
set_option maxRecDepth 100000 in
theorem am_okr_X6_one : (am_rows AM_X6_one).all (am_ok AM_X6_one) = true ∧ (am_okws AM_X6_one (am_rows AM_X6_one) ∧ am_okm AM_X6_one) := ⟨am_ok0_X6_one, am_ow0_X6_one, (fun _ => ⟨⟨rfl, rfl, rfl, by decide +kernel, by decide +kernel, by decide +kernel⟩, rfl, rfl, by decide +kernel⟩)⟩
theorem am_ok0_X6_leave : am_r0_X6_leave.all (am_ok AM_X6_leave) = true := by decide +kernel
set_option maxRecDepth 100000 in
theorem am_ow0_X6_leave : am_okws AM_X6_leave am_r0_X6_leave := ⟨trivial, trivial, rfl, trivial, trivial, trivial, trivial, trivial, rfl, trivial, trivial, trivial, trivial, trivial, trivial, rfl, trivial, rfl, rfl, trivial, trivial⟩
set_option maxRecDepth 100000 in
theorem am_okr_X6_leave : (am_rows AM_X6_leave).all (am_ok AM_X6_leave) = true ∧ (am_okws AM_X6_leave (am_rows AM_X6_leave) ∧ am_okm AM_X6_leave) := ⟨am_ok0_X6_leave, am_ow0_X6_leave, (fun _ => ⟨⟨rfl, rfl, rfl, by decide +kernel, by decide +kernel, by decide +kernel⟩, rfl, rfl, by decide +kernel⟩)⟩
theorem am_ok0_X6_kin : am_r0_X6_kin.all (am_ok AM_X6_kin) = true := by decide +kernel
set_option maxRecDepth 100000 in
theorem am_ow0_X6_kin : am_okws AM_X6_kin am_r0_X6_kin := ⟨trivial, trivial, trivial, rfl, trivial, trivial, trivial, trivial, rfl, trivial, trivial, trivial, trivial, trivial, trivial, trivial, rfl, trivial, trivial, trivial, trivial, trivial, trivial, trivial, trivial, trivial, trivial, trivial, rfl, trivial, trivial, trivial, trivial, trivial, trivial, trivial, trivial, trivial, trivial, trivial, rfl, trivial, trivial, trivial, trivial, trivial, trivial, trivial, trivial, trivial, trivial, trivial, trivial, trivial, rfl, trivial, trivial, trivial, trivial, trivial, trivial⟩
theorem am_ok1_X6_kin : am_r1_X6_kin.all (am_ok AM_X6_kin) = true := by decide +kernel
set_option maxRecDepth 100000 in
theorem am_ow1_X6_kin : am_okws AM_X6_kin am_r1_X6_kin := ⟨trivial, trivial, trivial, trivial, trivial, trivial, trivial, trivial, trivial, trivial, trivial, trivial, trivial, trivial, trivial, trivial, rfl, trivial, trivial, rfl, trivial, trivial, trivial, trivial, trivial, trivial, trivial, trivial, trivial⟩
set_option maxRecDepth 100000 in
theorem am_okr_X6_kin : (am_rows AM_X6_kin).all (am_ok AM_X6_kin) = true ∧ (am_okws AM_X6_kin (am_rows AM_X6_kin) ∧ am_okm AM_X6_kin) := ⟨am_all_app am_ok0_X6_kin am_ok1_X6_kin, am_okws_app am_ow0_X6_kin am_ow1_X6_kin, (fun _ => ⟨⟨rfl, rfl, rfl, by decide +kernel, by decide +kernel, by decide +kernel⟩, rfl, rfl, by decide +kernel⟩)⟩
theorem am_ok0_X6_isPlace : am_r0_X6_isPlace.all (am_ok AM_X6_isPlace) = true := by decide +kernel
set_option maxRecDepth 100000 in
theorem am_ow0_X6_isPlace : am_okws AM_X6_isPlace am_r0_X6_isPlace := ⟨trivial, trivial, trivial, rfl, trivial, trivial⟩
set_option maxRecDepth 100000 in
theorem am_okr_X6_isPlace : (am_rows AM_X6_isPlace).all (am_ok AM_X6_isPlace) = true ∧ (am_okws AM_X6_isPlace (am_rows AM_X6_isPlace) ∧ am_okm AM_X6_isPlace) := ⟨am_ok0_X6_isPlace, am_ow0_X6_isPlace, (fun _ => ⟨⟨rfl, rfl, rfl, by decide +kernel, by decide +kernel, by decide +kernel⟩, rfl, by decide +kernel⟩)⟩
theorem am_ok0_X6_stair : am_r0_X6_stair.all (am_ok AM_X6_stair) = true := by decide +kernel
set_option maxRecDepth 100000 in
theorem am_ow0_X6_stair : am_okws AM_X6_stair am_r0_X6_stair := ⟨trivial, trivial, trivial, rfl, trivial, trivial, trivial, trivial, rfl, trivial, trivial, rfl, trivial, trivial, trivial, trivial, trivial, rfl, trivial, trivial, trivial, trivial, trivial, rfl, trivial, trivial, trivial, trivial, rfl, trivial, rfl, trivial, trivial, trivial, trivial, rfl, trivial, trivial, trivial, trivial, rfl, trivial, trivial, trivial, trivial, rfl, rfl, trivial, trivial⟩
set_option maxRecDepth 100000 in
theorem am_okr_X6_stair : (am_rows AM_X6_stair).all (am_ok AM_X6_stair) = true ∧ (am_okws AM_X6_stair (am_rows AM_X6_stair) ∧ am_okm AM_X6_stair) := ⟨am_ok0_X6_stair, am_ow0_X6_stair, (fun _ => ⟨⟨rfl, rfl, rfl, by decide +kernel, by decide +kernel, by decide +kernel⟩, rfl, rfl, by decide +kernel⟩)⟩
theorem am_ok0_X6_say : am_r0_X6_say.all (am_ok AM_X6_say) = true := by decide +kernel
set_option maxRecDepth 100000 in
theorem am_ow0_X6_say : am_okws AM_X6_say am_r0_X6_say := ⟨trivial, trivial, trivial, rfl, trivial, trivial, trivial, trivial, rfl, trivial, trivial, trivial, trivial, trivial, rfl, trivial, rfl, trivial, trivial, trivial, trivial, rfl, trivial, trivial, rfl, trivial, rfl, trivial, trivial⟩
set_option maxRecDepth 100000 in
theorem am_okr_X6_say : (am_rows AM_X6_say).all (am_ok AM_X6_say) = true ∧ (am_okws AM_X6_say (am_rows AM_X6_say) ∧ am_okm AM_X6_say) := ⟨am_ok0_X6_say, am_ow0_X6_say, (fun _ => ⟨⟨rfl, rfl, rfl, by decide +kernel, by decide +kernel, by decide +kernel⟩, rfl, rfl, by decide +kernel⟩)⟩
theorem am_ok0_X6_wipe : am_r0_X6_wipe.all (am_ok AM_X6_wipe) = true := by decide +kernel
set_option maxRecDepth 100000 in
theorem am_ow0_X6_wipe : am_okws AM_X6_wipe am_r0_X6_wipe := ⟨trivial, rfl, trivial, trivial, trivial, rfl, trivial, trivial, trivial⟩
set_option maxRecDepth 100000 in
theorem am_okr_X6_wipe : (am_rows AM_X6_wipe).all (am_ok AM_X6_wipe) = true ∧ (am_okws AM_X6_wipe (am_rows AM_X6_wipe) ∧ am_okm AM_X6_wipe) := ⟨am_ok0_X6_wipe, am_ow0_X6_wipe, (fun _ => ⟨⟨rfl, rfl, rfl, by decide +kernel, by decide +kernel, by decide +kernel⟩, rfl, rfl, by decide +kernel⟩)⟩
theorem am_ok0_X6_faultOf : am_r0_X6_faultOf.all (am_ok AM_X6_faultOf) = true := by decide +kernel
set_option maxRecDepth 100000 in
theorem am_ow0_X6_faultOf : am_okws AM_X6_faultOf am_r0_X6_faultOf := ⟨trivial, trivial, trivial, trivial, trivial, trivial, rfl, trivial, trivial, rfl, trivial, trivial, trivial, trivial, trivial, trivial, rfl, trivial, trivial, trivial, trivial, trivial, trivial, rfl, trivial, trivial, trivial, trivial, trivial, trivial, trivial, trivial, trivial, trivial, trivial, trivial, trivial, trivial, trivial, trivial, trivial, trivial, trivial, trivial, trivial, trivial, rfl, trivial, trivial, trivial, trivial, trivial, trivial, trivial, trivial, trivial, trivial, trivial, trivial, trivial, trivial⟩
theorem am_ok1_X6_faultOf : am_r1_X6_faultOf.all (am_ok AM_X6_faultOf) = true := by decide +kernel
set_option maxRecDepth 100000 in
theorem am_ow1_X6_faultOf : am_okws AM_X6_faultOf am_r1_X6_faultOf := ⟨trivial, rfl, trivial, trivial, trivial, trivial, trivial, trivial, trivial, trivial, trivial, trivial, trivial, trivial, trivial, trivial, trivial, trivial, trivial, trivial, trivial, rfl, trivial, trivial⟩
set_option maxRecDepth 100000 in
theorem am_okr_X6_faultOf : (am_rows AM_X6_faultOf).all (am_ok AM_X6_faultOf) = true ∧ (am_okws AM_X6_faultOf (am_rows AM_X6_faultOf) ∧ am_okm AM_X6_faultOf) := ⟨am_all_app am_ok0_X6_faultOf am_ok1_X6_faultOf, am_okws_app am_ow0_X6_faultOf am_ow1_X6_faultOf, (fun _ => ⟨⟨rfl, rfl, rfl, by decide +kernel, by decide +kernel, by decide +kernel⟩, rfl, rfl, by decide +kernel⟩)⟩
theorem am_ok0_X6_fault : am_r0_X6_fault.all (am_ok AM_X6_fault) = true := by decide +kernel
set_option maxRecDepth 100000 in
theorem am_ow0_X6_fault : am_okws AM_X6_fault am_r0_X6_fault := ⟨trivial, rfl, trivial, trivial⟩
set_option maxRecDepth 100000 in
theorem am_okr_X6_fault : (am_rows AM_X6_fault).all (am_ok AM_X6_fault) = true ∧ (am_okws AM_X6_fault (am_rows AM_X6_fault) ∧ am_okm AM_X6_fault) := ⟨am_ok0_X6_fault, am_ow0_X6_fault, (fun _ => ⟨⟨rfl, rfl, rfl, by decide +kernel, by decide +kernel, by decide +kernel⟩, rfl, rfl, by decide +kernel⟩)⟩
theorem am_ok0_X6_asNow : am_r0_X6_asNow.all (am_ok AM_X6_asNow) = true := by decide +kernel
set_option maxRecDepth 100000 in
theorem am_ow0_X6_asNow : am_okws AM_X6_asNow am_r0_X6_asNow := ⟨trivial, trivial, trivial, trivial, trivial, trivial, rfl, trivial, trivial, rfl, trivial, trivial, trivial, trivial, trivial, trivial, trivial, rfl, trivial, trivial, rfl, trivial, trivial, rfl, trivial, trivial⟩
set_option maxRecDepth 100000 in
theorem am_okr_X6_asNow : (am_rows AM_X6_asNow).all (am_ok AM_X6_asNow) = true ∧ (am_okws AM_X6_asNow (am_rows AM_X6_asNow) ∧ am_okm AM_X6_asNow) := ⟨am_ok0_X6_asNow, am_ow0_X6_asNow, (fun _ => ⟨⟨rfl, rfl, rfl, by decide +kernel, by decide +kernel, by decide +kernel⟩, rfl, rfl, by decide +kernel⟩)⟩
theorem am_ok0_X6_build : am_r0_X6_build.all (am_ok AM_X6_build) = true := by decide +kernel
set_option maxRecDepth 100000 in
theorem am_ow0_X6_build : am_okws AM_X6_build am_r0_X6_build := ⟨trivial, trivial, rfl, trivial, trivial, trivial, trivial, rfl, trivial, trivial, trivial, trivial, trivial, trivial, trivial, trivial, trivial, rfl, trivial, trivial, trivial, trivial, rfl, trivial, rfl, trivial, trivial, trivial, trivial, trivial, rfl, trivial, trivial, trivial, trivial, rfl, trivial, trivial, trivial, trivial, rfl, trivial, trivial, trivial, trivial, trivial, trivial, trivial, trivial, trivial, trivial, trivial⟩
set_option maxRecDepth 100000 in
theorem am_okr_X6_build : (am_rows AM_X6_build).all (am_ok AM_X6_build) = true ∧ (am_okws AM_X6_build (am_rows AM_X6_build) ∧ am_okm AM_X6_build) := ⟨am_ok0_X6_build, am_ow0_X6_build, (fun _ => ⟨⟨rfl, rfl, rfl, by decide +kernel, by decide +kernel, by decide +kernel⟩, rfl, rfl, by decide +kernel⟩)⟩
theorem am_ok0_X6_climbUp : am_r0_X6_climbUp.all (am_ok AM_X6_climbUp) = true := by decide +kernel
set_option maxRecDepth 100000 in
theorem am_ow0_X6_climbUp : am_okws AM_X6_climbUp am_r0_X6_climbUp := ⟨trivial, trivial, rfl, trivial, trivial, trivial, trivial, rfl, trivial, trivial, trivial, rfl, trivial, trivial, trivial, trivial, trivial, rfl, trivial, trivial, trivial, trivial, trivial, rfl, trivial, trivial, rfl, trivial, trivial, rfl, trivial, trivial, trivial, trivial, trivial, trivial, rfl, trivial, trivial, trivial, trivial, trivial, trivial, trivial, trivial, trivial, trivial, trivial, trivial, trivial, trivial, rfl, trivial, trivial, trivial, trivial, rfl, rfl, trivial, trivial, trivial⟩
theorem am_ok1_X6_climbUp : am_r1_X6_climbUp.all (am_ok AM_X6_climbUp) = true := by decide +kernel
set_option maxRecDepth 100000 in
theorem am_ow1_X6_climbUp : am_okws AM_X6_climbUp am_r1_X6_climbUp := ⟨rfl, trivial, trivial, rfl, trivial, rfl, trivial, trivial, trivial, trivial, trivial, trivial, trivial, trivial, trivial, rfl, trivial, trivial, trivial, trivial, trivial, trivial, trivial, rfl, trivial, trivial, rfl, trivial, trivial, trivial, trivial, trivial, trivial, rfl, trivial, trivial, trivial, trivial, trivial, trivial, trivial, trivial⟩
set_option maxRecDepth 100000 in
theorem am_okr_X6_climbUp : (am_rows AM_X6_climbUp).all (am_ok AM_X6_climbUp) = true ∧ (am_okws AM_X6_climbUp (am_rows AM_X6_climbUp) ∧ am_okm AM_X6_climbUp) := ⟨am_all_app am_ok0_X6_climbUp am_ok1_X6_climbUp, am_okws_app am_ow0_X6_climbUp am_ow1_X6_climbUp, (fun _ => ⟨⟨rfl, rfl, rfl, by decide +kernel, by decide +kernel, by decide +kernel⟩, rfl, rfl, by decide +kernel⟩)⟩
theorem am_ok0_X6_convert : am_r0_X6_convert.all (am_ok AM_X6_convert) = true := by decide +kernel
set_option maxRecDepth 100000 in
theorem am_ow0_X6_convert : am_okws AM_X6_convert am_r0_X6_convert := ⟨trivial, trivial, rfl, trivial, trivial, trivial, trivial, rfl, trivial, trivial, trivial, trivial, trivial, trivial, trivial, rfl, trivial, trivial, trivial, trivial, rfl, trivial, trivial, trivial, trivial, trivial, trivial, trivial, trivial⟩
set_option maxRecDepth 100000 in
theorem am_okr_X6_convert : (am_rows AM_X6_convert).all (am_ok AM_X6_convert) = true ∧ (am_okws AM_X6_convert (am_rows AM_X6_convert) ∧ am_okm AM_X6_convert) := ⟨am_ok0_X6_convert, am_ow0_X6_convert, (fun _ => ⟨⟨rfl, rfl, rfl, by decide +kernel, by decide +kernel, by decide +kernel⟩, rfl, rfl, by decide +kernel⟩)⟩
theorem am_ok0_X6_quake : am_r0_X6_quake.all (am_ok AM_X6_quake) = true := by decide +kernel
set_option maxRecDepth 100000 in
theorem am_ow0_X6_quake : am_okws AM_X6_quake am_r0_X6_quake := ⟨trivial, trivial, trivial, trivial, trivial, trivial, rfl, trivial, trivial, trivial, trivial, rfl, trivial, trivial, trivial, trivial, trivial, rfl, trivial, trivial, rfl, rfl, trivial, trivial, trivial, trivial, trivial, trivial, trivial, trivial, trivial, trivial, trivial, trivial, trivial, trivial⟩
set_option maxRecDepth 100000 in
theorem am_okr_X6_quake : (am_rows AM_X6_quake).all (am_ok AM_X6_quake) = true ∧ (am_okws AM_X6_quake (am_rows AM_X6_quake) ∧ am_okm AM_X6_quake) := ⟨am_ok0_X6_quake, am_ow0_X6_quake, (fun _ => ⟨⟨rfl, rfl, rfl, by decide +kernel, by decide +kernel, by decide +kernel⟩, rfl, rfl, by decide +kernel⟩)⟩
theorem am_ok0_X6_endYear : am_r0_X6_endYear.all (am_ok AM_X6_endYear) = true := by decide +kernel
set_option maxRecDepth 100000 in
theorem am_ow0_X6_endYear : am_okws AM_X6_endYear am_r0_X6_endYear := ⟨trivial, rfl, trivial, trivial, trivial, trivial, trivial, trivial, trivial, rfl, trivial, trivial, trivial, trivial, trivial, trivial, trivial, trivial, trivial⟩
set_option maxRecDepth 100000 in
theorem am_okr_X6_endYear : (am_rows AM_X6_endYear).all (am_ok AM_X6_endYear) = true ∧ (am_okws AM_X6_endYear (am_rows AM_X6_endYear) ∧ am_okm AM_X6_endYear) := ⟨am_ok0_X6_endYear, am_ow0_X6_endYear, (fun _ => ⟨⟨rfl, rfl, rfl, by decide +kernel, by decide +kernel, by decide +kernel⟩, rfl, rfl, by decide +kernel⟩)⟩
theorem am_ok0_X6_goYears : am_r0_X6_goYears.all (am_ok AM_X6_goYears) = true := by decide +kernel
set_option maxRecDepth 100000 in
theorem am_ow0_X6_goYears : am_okws AM_X6_goYears am_r0_X6_goYears := ⟨trivial, rfl, trivial, trivial, rfl, trivial, trivial, trivial, trivial, rfl, trivial, trivial, rfl, trivial, trivial, trivial, trivial, rfl, trivial, trivial, trivial, rfl, trivial, trivial, trivial, trivial, trivial, rfl, rfl, trivial, trivial, trivial, trivial, trivial, rfl, trivial, trivial, trivial, rfl, trivial, trivial, trivial, trivial, trivial, trivial, trivial, trivial, trivial, trivial, trivial, trivial, trivial, rfl, trivial, trivial, trivial, trivial, rfl, rfl, trivial, trivial⟩
theorem am_ok1_X6_goYears : am_r1_X6_goYears.all (am_ok AM_X6_goYears) = true := by decide +kernel
set_option maxRecDepth 100000 in
theorem am_ow1_X6_goYears : am_okws AM_X6_goYears am_r1_X6_goYears := ⟨trivial, trivial, trivial, trivial, trivial, trivial, trivial, trivial, trivial, trivial, trivial, rfl, trivial, trivial, trivial, trivial, trivial, trivial, trivial, trivial, rfl, rfl, trivial, rfl, trivial, trivial, rfl, trivial, trivial, trivial, rfl, trivial, trivial, rfl, trivial, trivial, trivial, rfl, trivial, trivial, rfl, rfl, trivial, trivial, trivial, rfl, trivial, trivial, rfl, trivial, trivial, trivial, trivial⟩
set_option maxRecDepth 100000 in
theorem am_okr_X6_goYears : (am_rows AM_X6_goYears).all (am_ok AM_X6_goYears) = true ∧ (am_okws AM_X6_goYears (am_rows AM_X6_goYears) ∧ am_okm AM_X6_goYears) := ⟨am_all_app am_ok0_X6_goYears am_ok1_X6_goYears, am_okws_app am_ow0_X6_goYears am_ow1_X6_goYears, (fun _ => ⟨⟨rfl, rfl, rfl, by decide +kernel, by decide +kernel, by decide +kernel⟩, rfl, rfl, by decide +kernel⟩)⟩
theorem am_ok0_X6_judge : am_r0_X6_judge.all (am_ok AM_X6_judge) = true := by decide +kernel
set_option maxRecDepth 100000 in
theorem am_ow0_X6_judge : am_okws AM_X6_judge am_r0_X6_judge := ⟨trivial, trivial, trivial, rfl, trivial, trivial, trivial, trivial, rfl, trivial, trivial, trivial, trivial, rfl, trivial, trivial, trivial, trivial, trivial, trivial, trivial, trivial, rfl, trivial, trivial⟩
set_option maxRecDepth 100000 in
theorem am_okr_X6_judge : (am_rows AM_X6_judge).all (am_ok AM_X6_judge) = true ∧ (am_okws AM_X6_judge (am_rows AM_X6_judge) ∧ am_okm AM_X6_judge) := ⟨am_ok0_X6_judge, am_ow0_X6_judge, (fun _ => ⟨⟨rfl, rfl, rfl, by decide +kernel, by decide +kernel, by decide +kernel⟩, rfl, rfl, by decide +kernel⟩)⟩
theorem am_ok0_X6_barOfYears : am_r0_X6_barOfYears.all (am_ok AM_X6_barOfYears) = true := by decide +kernel
set_option maxRecDepth 100000 in
theorem am_ow0_X6_barOfYears : am_okws AM_X6_barOfYears am_r0_X6_barOfYears := ⟨trivial, rfl, trivial, trivial, rfl, trivial, trivial, trivial, trivial, trivial, trivial⟩
set_option maxRecDepth 100000 in
theorem am_okr_X6_barOfYears : (am_rows AM_X6_barOfYears).all (am_ok AM_X6_barOfYears) = true ∧ (am_okws AM_X6_barOfYears (am_rows AM_X6_barOfYears) ∧ am_okm AM_X6_barOfYears) := ⟨am_ok0_X6_barOfYears, am_ow0_X6_barOfYears, (fun _ => ⟨⟨rfl, rfl, rfl, by decide +kernel, by decide +kernel, by decide +kernel⟩, rfl, rfl, by decide +kernel⟩)⟩
theorem am_ok0_X6_done : am_r0_X6_done.all (am_ok AM_X6_done) = true := by decide +kernel
set_option maxRecDepth 100000 in
theorem am_ow0_X6_done : am_okws AM_X6_done am_r0_X6_done := ⟨trivial, rfl, trivial, trivial, trivial, trivial, trivial, trivial, trivial, trivial, trivial, rfl, trivial, trivial, rfl, trivial, trivial, trivial, trivial, trivial, trivial, trivial, rfl, trivial, rfl, trivial, trivial⟩
set_option maxRecDepth 100000 in
theorem am_okr_X6_done : (am_rows AM_X6_done).all (am_ok AM_X6_done) = true ∧ (am_okws AM_X6_done (am_rows AM_X6_done) ∧ am_okm AM_X6_done) := ⟨am_ok0_X6_done, am_ow0_X6_done, (fun _ => ⟨⟨rfl, rfl, rfl, by decide +kernel, by decide +kernel, by decide +kernel⟩, rfl, rfl, by decide +kernel⟩)⟩
theorem am_ok0_X6_behind : am_r0_X6_behind.all (am_ok AM_X6_behind) = true := by decide +kernel
set_option maxRecDepth 100000 in
theorem am_ow0_X6_behind : am_okws AM_X6_behind am_r0_X6_behind := ⟨trivial, trivial, rfl, trivial, trivial, trivial, trivial, trivial, trivial, rfl, trivial, trivial, trivial, trivial, rfl, trivial, trivial, trivial, trivial, rfl, trivial, trivial, trivial, trivial, trivial, trivial, trivial, trivial⟩
set_option maxRecDepth 100000 in
theorem am_okr_X6_behind : (am_rows AM_X6_behind).all (am_ok AM_X6_behind) = true ∧ (am_okws AM_X6_behind (am_rows AM_X6_behind) ∧ am_okm AM_X6_behind) := ⟨am_ok0_X6_behind, am_ow0_X6_behind, (fun _ => ⟨⟨rfl, rfl, rfl, by decide +kernel, by decide +kernel, by decide +kernel⟩, rfl, rfl, by decide +kernel⟩)⟩
theorem am_ok0_X6_wall : am_r0_X6_wall.all (am_ok AM_X6_wall) = true := by decide +kernel
set_option maxRecDepth 100000 in
theorem am_ow0_X6_wall : am_okws AM_X6_wall am_r0_X6_wall := ⟨trivial, trivial, trivial, rfl, trivial, trivial, trivial, trivial, trivial, trivial, rfl, trivial, trivial, trivial, trivial, rfl, trivial, trivial, trivial, trivial, rfl, trivial, trivial, trivial, rfl, trivial, trivial, trivial, trivial, trivial, trivial, rfl, trivial, trivial, trivial, trivial, trivial, trivial, trivial, trivial, rfl, trivial, trivial, trivial, trivial, trivial, trivial⟩
set_option maxRecDepth 100000 in
theorem am_okr_X6_wall : (am_rows AM_X6_wall).all (am_ok AM_X6_wall) = true ∧ (am_okws AM_X6_wall (am_rows AM_X6_wall) ∧ am_okm AM_X6_wall) := ⟨am_ok0_X6_wall, am_ow0_X6_wall, (fun _ => ⟨⟨rfl, rfl, rfl, by decide +kernel, by decide +kernel, by decide +kernel⟩, rfl, rfl, by decide +kernel⟩)⟩
theorem am_ok0_X6_fell : am_r0_X6_fell.all (am_ok AM_X6_fell) = true := by decide +kernel
set_option maxRecDepth 100000 in
theorem am_ow0_X6_fell : am_okws AM_X6_fell am_r0_X6_fell := ⟨trivial, trivial, trivial, rfl, trivial, trivial, trivial, trivial, rfl, trivial, trivial, trivial, trivial, trivial, trivial, rfl, trivial, trivial, trivial, trivial, trivial, rfl, trivial, trivial, trivial, trivial, trivial, rfl, trivial, trivial, rfl, trivial, trivial, trivial, trivial⟩
set_option maxRecDepth 100000 in
theorem am_okr_X6_fell : (am_rows AM_X6_fell).all (am_ok AM_X6_fell) = true ∧ (am_okws AM_X6_fell (am_rows AM_X6_fell) ∧ am_okm AM_X6_fell) := ⟨am_ok0_X6_fell, am_ow0_X6_fell, (fun _ => ⟨⟨rfl, rfl, rfl, by decide +kernel, by decide +kernel, by decide +kernel⟩, rfl, rfl, by decide +kernel⟩)⟩
theorem am_ok0_X6_bears : am_r0_X6_bears.all (am_ok AM_X6_bears) = true := by decide +kernel
set_option maxRecDepth 100000 in
theorem am_ow0_X6_bears : am_okws AM_X6_bears am_r0_X6_bears := ⟨trivial, trivial, rfl, trivial, trivial, trivial, trivial, trivial, trivial, trivial, trivial, trivial, trivial, trivial, trivial, rfl, trivial, trivial, trivial, rfl, trivial, trivial, trivial, rfl, trivial, trivial, trivial, trivial, trivial, rfl, trivial, trivial, rfl, trivial, trivial, trivial, trivial, trivial, trivial, trivial, trivial, trivial, trivial, trivial, trivial, trivial⟩
set_option maxRecDepth 100000 in
theorem am_okr_X6_bears : (am_rows AM_X6_bears).all (am_ok AM_X6_bears) = true ∧ (am_okws AM_X6_bears (am_rows AM_X6_bears) ∧ am_okm AM_X6_bears) := ⟨am_ok0_X6_bears, am_ow0_X6_bears, (fun _ => ⟨⟨rfl, rfl, rfl, by decide +kernel, by decide +kernel, by decide +kernel⟩, rfl, rfl, by decide +kernel⟩)⟩
theorem am_ok0_X6_areThere : am_r0_X6_areThere.all (am_ok AM_X6_areThere) = true := by decide +kernel
set_option maxRecDepth 100000 in
theorem am_ow0_X6_areThere : am_okws AM_X6_areThere am_r0_X6_areThere := ⟨trivial, trivial, trivial, rfl, trivial, trivial, trivial, rfl, trivial, trivial, trivial, trivial, trivial, trivial, trivial, trivial, trivial⟩
set_option maxRecDepth 100000 in
theorem am_okr_X6_areThere : (am_rows AM_X6_areThere).all (am_ok AM_X6_areThere) = true ∧ (am_okws AM_X6_areThere (am_rows AM_X6_areThere) ∧ am_okm AM_X6_areThere) := ⟨am_ok0_X6_areThere, am_ow0_X6_areThere, (fun _ => ⟨⟨rfl, rfl, rfl, by decide +kernel, by decide +kernel, by decide +kernel⟩, rfl, rfl, by decide +kernel⟩)⟩
theorem am_ok0_X6_bearsAll : am_r0_X6_bearsAll.all (am_ok AM_X6_bearsAll) = true := by decide +kernel
set_option maxRecDepth 100000 in
theorem am_ow0_X6_bearsAll : am_okws AM_X6_bearsAll am_r0_X6_bearsAll := ⟨trivial, trivial, trivial, trivial, trivial, trivial, trivial, trivial, trivial, trivial, trivial, rfl, trivial, trivial, trivial, trivial, rfl, trivial, trivial, rfl, trivial, trivial, trivial, trivial, trivial, trivial, trivial, trivial, trivial, trivial⟩
set_option maxRecDepth 100000 in
theorem am_okr_X6_bearsAll : (am_rows AM_X6_bearsAll).all (am_ok AM_X6_bearsAll) = true ∧ (am_okws AM_X6_bearsAll (am_rows AM_X6_bearsAll) ∧ am_okm AM_X6_bearsAll) := ⟨am_ok0_X6_bearsAll, am_ow0_X6_bearsAll, (fun _ => ⟨⟨rfl, rfl, rfl, by decide +kernel, by decide +kernel, by decide +kernel⟩, rfl, rfl, by decide +kernel⟩)⟩
theorem am_ok0_X6_all : am_r0_X6_all.all (am_ok AM_X6_all) = true := by decide +kernel
set_option maxRecDepth 100000 in
theorem am_ow0_X6_all : am_okws AM_X6_all am_r0_X6_all := ⟨trivial, trivial, rfl, trivial, trivial, trivial, trivial, trivial, trivial, rfl, trivial, trivial, trivial, trivial, trivial, trivial, trivial, trivial, trivial, trivial, trivial, trivial, trivial, trivial, trivial, rfl, trivial, trivial, trivial, trivial, trivial, trivial, trivial, trivial, trivial, trivial, trivial, trivial, trivial, trivial, trivial⟩
set_option maxRecDepth 100000 in
theorem am_okr_X6_all : (am_rows AM_X6_all).all (am_ok AM_X6_all) = true ∧ (am_okws AM_X6_all (am_rows AM_X6_all) ∧ am_okm AM_X6_all) := ⟨am_ok0_X6_all, am_ow0_X6_all, (fun _ => ⟨⟨rfl, rfl, rfl, by decide +kernel, by decide +kernel, by decide +kernel⟩, rfl, rfl, by decide +kernel⟩)⟩
theorem am_ok0_X6_wedges : am_r0_X6_wedges.all (am_ok AM_X6_wedges) = true := by decide +kernel
set_option maxRecDepth 100000 in
theorem am_ow0_X6_wedges : am_okws AM_X6_wedges am_r0_X6_wedges := ⟨trivial, trivial, trivial, rfl, trivial, trivial, rfl, trivial, trivial, trivial, rfl, trivial, trivial, trivial, rfl, trivial, trivial, trivial, trivial, trivial, trivial, rfl, trivial, trivial, trivial, rfl, trivial, trivial, trivial, trivial, trivial, trivial, trivial, trivial, trivial, trivial, rfl, trivial, trivial, trivial, trivial, trivial, trivial, trivial, rfl, trivial, trivial, trivial, trivial, trivial, trivial, trivial, rfl, trivial, trivial, trivial, trivial, trivial, trivial, trivial, trivial⟩
theorem am_ok1_X6_wedges : am_r1_X6_wedges.all (am_ok AM_X6_wedges) = true := by decide +kernel
set_option maxRecDepth 100000 in
theorem am_ow1_X6_wedges : am_okws AM_X6_wedges am_r1_X6_wedges := ⟨trivial, trivial, trivial, rfl, trivial, trivial, trivial, trivial, trivial, trivial, trivial, trivial, trivial, trivial, trivial, trivial, trivial, trivial, trivial, trivial, trivial, trivial, trivial, trivial, trivial, trivial, trivial, trivial, trivial, trivial, trivial, trivial, trivial, trivial, trivial, trivial, trivial, trivial⟩
set_option maxRecDepth 100000 in
theorem am_okr_X6_wedges : (am_rows AM_X6_wedges).all (am_ok AM_X6_wedges) = true ∧ (am_okws AM_X6_wedges (am_rows AM_X6_wedges) ∧ am_okm AM_X6_wedges) := ⟨am_all_app am_ok0_X6_wedges am_ok1_X6_wedges, am_okws_app am_ow0_X6_wedges am_ow1_X6_wedges, (fun _ => ⟨⟨rfl, rfl, rfl, by decide +kernel, by decide +kernel, by decide +kernel⟩, rfl, rfl, by decide +kernel⟩)⟩
theorem am_ok0_X6_meet : am_r0_X6_meet.all (am_ok AM_X6_meet) = true := by decide +kernel
set_option maxRecDepth 100000 in
theorem am_ow0_X6_meet : am_okws AM_X6_meet am_r0_X6_meet := ⟨trivial, trivial, rfl, trivial, trivial, trivial, rfl, trivial, trivial, trivial, trivial, trivial, trivial, rfl, trivial, trivial, trivial, trivial, rfl, trivial, trivial, trivial, rfl, trivial, trivial, trivial, trivial, trivial, trivial, trivial, trivial, trivial, trivial, rfl, trivial, rfl, trivial, trivial, trivial, trivial, trivial, trivial, trivial, trivial, rfl, trivial, rfl, trivial, trivial, trivial, trivial, trivial, trivial, trivial, trivial, trivial, trivial, trivial, trivial, trivial, trivial⟩
theorem am_ok1_X6_meet : am_r1_X6_meet.all (am_ok AM_X6_meet) = true := by decide +kernel
set_option maxRecDepth 100000 in
theorem am_ow1_X6_meet : am_okws AM_X6_meet am_r1_X6_meet := ⟨trivial, trivial, trivial, trivial, trivial, trivial, trivial, trivial, trivial, trivial, trivial, trivial, trivial, trivial, trivial, trivial, trivial, trivial, trivial, trivial, trivial, trivial, trivial⟩
set_option maxRecDepth 100000 in
theorem am_okr_X6_meet : (am_rows AM_X6_meet).all (am_ok AM_X6_meet) = true ∧ (am_okws AM_X6_meet (am_rows AM_X6_meet) ∧ am_okm AM_X6_meet) := ⟨am_all_app am_ok0_X6_meet am_ok1_X6_meet, am_okws_app am_ow0_X6_meet am_ow1_X6_meet, (fun _ => ⟨⟨rfl, rfl, rfl, by decide +kernel, by decide +kernel, by decide +kernel⟩, rfl, rfl, by decide +kernel⟩)⟩
theorem am_ok0_X6_layFar : am_r0_X6_layFar.all (am_ok AM_X6_layFar) = true := by decide +kernel
set_option maxRecDepth 100000 in
theorem am_ow0_X6_layFar : am_okws AM_X6_layFar am_r0_X6_layFar := ⟨trivial, trivial, trivial, trivial, trivial, trivial, rfl, trivial, trivial, trivial, trivial, trivial, trivial, rfl, trivial, trivial, trivial, trivial, trivial, trivial, trivial, trivial, trivial, trivial, trivial, trivial, trivial, trivial, rfl, trivial, rfl, trivial, trivial, trivial, rfl, trivial, trivial, trivial, rfl, trivial, trivial, rfl, trivial, trivial, rfl, trivial, trivial, trivial, trivial, rfl, trivial, trivial, trivial, trivial, rfl, trivial, trivial, rfl, trivial, trivial, trivial⟩
theorem am_ok1_X6_layFar : am_r1_X6_layFar.all (am_ok AM_X6_layFar) = true := by decide +kernel
set_option maxRecDepth 100000 in
theorem am_ow1_X6_layFar : am_okws AM_X6_layFar am_r1_X6_layFar := ⟨trivial, trivial, trivial, rfl, trivial, trivial, trivial, trivial, rfl, trivial, trivial, trivial, trivial, trivial, trivial, rfl, trivial, trivial, trivial, trivial, rfl, trivial, trivial, rfl, trivial, trivial, trivial, trivial, trivial, rfl, trivial, trivial, trivial, trivial, rfl, trivial, trivial, trivial, trivial, trivial, trivial, rfl, trivial, trivial, trivial, trivial, trivial, trivial, trivial, trivial, trivial⟩
set_option maxRecDepth 100000 in
theorem am_okr_X6_layFar : (am_rows AM_X6_layFar).all (am_ok AM_X6_layFar) = true ∧ (am_okws AM_X6_layFar (am_rows AM_X6_layFar) ∧ am_okm AM_X6_layFar) := ⟨am_all_app am_ok0_X6_layFar am_ok1_X6_layFar, am_okws_app am_ow0_X6_layFar am_ow1_X6_layFar, (fun _ => ⟨⟨rfl, rfl, rfl, by decide +kernel, by decide +kernel, by decide +kernel⟩, rfl, rfl, by decide +kernel⟩)⟩
theorem am_ok0_X6_ways : am_r0_X6_ways.all (am_ok AM_X6_ways) = true := by decide +kernel
set_option maxRecDepth 100000 in
theorem am_ow0_X6_ways : am_okws AM_X6_ways am_r0_X6_ways := ⟨trivial, trivial, rfl, trivial, trivial, trivial, trivial, rfl, trivial, trivial, rfl, trivial, trivial, trivial, trivial, rfl, trivial, trivial, trivial, trivial, trivial, trivial, rfl, trivial, rfl, trivial, trivial, rfl, trivial, trivial, trivial, trivial, trivial, trivial, rfl, trivial, trivial, trivial, trivial, trivial, trivial, trivial, trivial, trivial, trivial, trivial, trivial, trivial, trivial, rfl, trivial, rfl, trivial, trivial, trivial, rfl, trivial, trivial, trivial, rfl, trivial⟩
theorem am_ok1_X6_ways : am_r1_X6_ways.all (am_ok AM_X6_ways) = true := by decide +kernel
set_option maxRecDepth 100000 in
theorem am_ow1_X6_ways : am_okws AM_X6_ways am_r1_X6_ways := ⟨trivial, trivial, rfl, trivial, trivial, rfl, trivial, trivial, trivial, trivial, trivial, rfl, trivial, trivial, trivial, trivial, trivial, rfl, trivial, trivial, trivial, trivial, trivial, rfl, trivial, trivial, trivial, trivial, rfl, trivial, trivial, trivial, trivial, rfl, trivial, trivial, trivial, trivial, trivial, rfl, trivial, trivial, trivial, trivial, trivial, trivial, trivial, trivial, trivial, trivial, trivial, trivial, trivial, trivial, trivial, trivial, trivial⟩
set_option maxRecDepth 100000 in
theorem am_okr_X6_ways : (am_rows AM_X6_ways).all (am_ok AM_X6_ways) = true ∧ (am_okws AM_X6_ways (am_rows AM_X6_ways) ∧ am_okm AM_X6_ways) := ⟨am_all_app am_ok0_X6_ways am_ok1_X6_ways, am_okws_app am_ow0_X6_ways am_ow1_X6_ways, (fun _ => ⟨⟨rfl, rfl, rfl, by decide +kernel, by decide +kernel, by decide +kernel⟩, rfl, rfl, by decide +kernel⟩)⟩
theorem am_ok0_X6_reach : am_r0_X6_reach.all (am_ok AM_X6_reach) = true := by decide +kernel
set_option maxRecDepth 100000 in
theorem am_ow0_X6_reach : am_okws AM_X6_reach am_r0_X6_reach := ⟨trivial, trivial, rfl, trivial, trivial, trivial, trivial, rfl, trivial, trivial, trivial, trivial, trivial, trivial, rfl, trivial, trivial, trivial, trivial, trivial, trivial, trivial, trivial, trivial, rfl, trivial, trivial, rfl, trivial, trivial, trivial, trivial, trivial, trivial, trivial, trivial, trivial, trivial, trivial, trivial, trivial⟩
set_option maxRecDepth 100000 in
theorem am_okr_X6_reach : (am_rows AM_X6_reach).all (am_ok AM_X6_reach) = true ∧ (am_okws AM_X6_reach (am_rows AM_X6_reach) ∧ am_okm AM_X6_reach) := ⟨am_ok0_X6_reach, am_ow0_X6_reach, (fun _ => ⟨⟨rfl, rfl, rfl, by decide +kernel, by decide +kernel, by decide +kernel⟩, rfl, rfl, by decide +kernel⟩)⟩
theorem am_ok0_X6_seen : am_r0_X6_seen.all (am_ok AM_X6_seen) = true := by decide +kernel
set_option maxRecDepth 100000 in
theorem am_ow0_X6_seen : am_okws AM_X6_seen am_r0_X6_seen := ⟨trivial, rfl, trivial, trivial, trivial, trivial, rfl, trivial, trivial, trivial, trivial, rfl, trivial, trivial, trivial, trivial, trivial, rfl, trivial, trivial, rfl, trivial, trivial, trivial, trivial, rfl, trivial, trivial, rfl, trivial, trivial, trivial, trivial, trivial, trivial, trivial, rfl, trivial, trivial, rfl, trivial, rfl, trivial, trivial⟩
set_option maxRecDepth 100000 in
theorem am_okr_X6_seen : (am_rows AM_X6_seen).all (am_ok AM_X6_seen) = true ∧ (am_okws AM_X6_seen (am_rows AM_X6_seen) ∧ am_okm AM_X6_seen) := ⟨am_ok0_X6_seen, am_ow0_X6_seen, (fun _ => ⟨⟨rfl, rfl, rfl, by decide +kernel, by decide +kernel, by decide +kernel⟩, rfl, rfl, by decide +kernel⟩)⟩
theorem am_ok0_X6_forget : am_r0_X6_forget.all (am_ok AM_X6_forget) = true := by decide +kernel
set_option maxRecDepth 100000 in
theorem am_ow0_X6_forget : am_okws AM_X6_forget am_r0_X6_forget := ⟨trivial, rfl, trivial, trivial, trivial, rfl, trivial, trivial, trivial⟩
set_option maxRecDepth 100000 in
theorem am_okr_X6_forget : (am_rows AM_X6_forget).all (am_ok AM_X6_forget) = true ∧ (am_okws AM_X6_forget (am_rows AM_X6_forget) ∧ am_okm AM_X6_forget) := ⟨am_ok0_X6_forget, am_ow0_X6_forget, (fun _ => ⟨⟨rfl, rfl, rfl, by decide +kernel, by decide +kernel, by decide +kernel⟩, rfl, rfl, by decide +kernel⟩)⟩
theorem am_ok0_X6_howIs : am_r0_X6_howIs.all (am_ok AM_X6_howIs) = true := by decide +kernel
set_option maxRecDepth 100000 in
theorem am_ow0_X6_howIs : am_okws AM_X6_howIs am_r0_X6_howIs := ⟨trivial, trivial, trivial, trivial, trivial, trivial, trivial, trivial, trivial, trivial, trivial, trivial, trivial⟩
set_option maxRecDepth 100000 in
theorem am_okr_X6_howIs : (am_rows AM_X6_howIs).all (am_ok AM_X6_howIs) = true ∧ (am_okws AM_X6_howIs (am_rows AM_X6_howIs) ∧ am_okm AM_X6_howIs) := ⟨am_ok0_X6_howIs, am_ow0_X6_howIs, (fun _ => ⟨⟨rfl, rfl, rfl, by decide +kernel, by decide +kernel, by decide +kernel⟩, rfl, by decide +kernel⟩)⟩
theorem am_ok0_X6_fits : am_r0_X6_fits.all (am_ok AM_X6_fits) = true := by decide +kernel
set_option maxRecDepth 100000 in
theorem am_ow0_X6_fits : am_okws AM_X6_fits am_r0_X6_fits := ⟨trivial, trivial, trivial, trivial, trivial, trivial, rfl, trivial, trivial, trivial, trivial, trivial, rfl, trivial, trivial, trivial, trivial, rfl, trivial, rfl, trivial, trivial, trivial, trivial, trivial, trivial, trivial, trivial, trivial, trivial, trivial, trivial, trivial, trivial, trivial, trivial⟩
set_option maxRecDepth 100000 in
theorem am_okr_X6_fits : (am_rows AM_X6_fits).all (am_ok AM_X6_fits) = true ∧ (am_okws AM_X6_fits (am_rows AM_X6_fits) ∧ am_okm AM_X6_fits) := ⟨am_ok0_X6_fits, am_ow0_X6_fits, (fun _ => ⟨⟨rfl, rfl, rfl, by decide +kernel, by decide +kernel, by decide +kernel⟩, rfl, rfl, by decide +kernel⟩)⟩
theorem am_ok0_X6_downs : am_r0_X6_downs.all (am_ok AM_X6_downs) = true := by decide +kernel
set_option maxRecDepth 100000 in
theorem am_ow0_X6_downs : am_okws AM_X6_downs am_r0_X6_downs := ⟨trivial, trivial, trivial, trivial, trivial, trivial, trivial, trivial, trivial, rfl, trivial, trivial, trivial, trivial, trivial, trivial, trivial, trivial, trivial, trivial, trivial, trivial, trivial, trivial, trivial, trivial, trivial, trivial, trivial⟩
set_option maxRecDepth 100000 in
theorem am_okr_X6_downs : (am_rows AM_X6_downs).all (am_ok AM_X6_downs) = true ∧ (am_okws AM_X6_downs (am_rows AM_X6_downs) ∧ am_okm AM_X6_downs) := ⟨am_ok0_X6_downs, am_ow0_X6_downs, (fun _ => ⟨⟨rfl, rfl, rfl, by decide +kernel, by decide +kernel, by decide +kernel⟩, rfl, rfl, by decide +kernel⟩)⟩
theorem am_ok0_X6_next : am_r0_X6_next.all (am_ok AM_X6_next) = true := by decide +kernel
set_option maxRecDepth 100000 in
theorem am_ow0_X6_next : am_okws AM_X6_next am_r0_X6_next := ⟨trivial, trivial, trivial, rfl, trivial, trivial, trivial, trivial, trivial, rfl, trivial, trivial, trivial, trivial, trivial, trivial, trivial, trivial, trivial, trivial, trivial, trivial, trivial, trivial, rfl, trivial, trivial, trivial, trivial, trivial, trivial, trivial, trivial, trivial, trivial, trivial, rfl, trivial, trivial, rfl, trivial, trivial, trivial, trivial, rfl, trivial, trivial, trivial, trivial, trivial, trivial, trivial, trivial, trivial, trivial, trivial, trivial, trivial, trivial, rfl, trivial⟩
theorem am_ok1_X6_next : am_r1_X6_next.all (am_ok AM_X6_next) = true := by decide +kernel
set_option maxRecDepth 100000 in
theorem am_ow1_X6_next : am_okws AM_X6_next am_r1_X6_next := ⟨trivial, trivial, trivial, trivial, trivial, rfl, trivial, trivial, trivial, trivial, trivial, trivial, trivial, trivial, trivial, trivial, trivial, trivial, trivial, trivial, trivial, trivial, trivial, trivial, trivial, trivial, trivial, trivial, trivial, trivial, trivial, trivial, trivial, trivial, trivial, trivial, trivial, trivial, trivial, trivial, trivial, trivial, trivial, trivial, trivial, trivial, trivial⟩
set_option maxRecDepth 100000 in
theorem am_okr_X6_next : (am_rows AM_X6_next).all (am_ok AM_X6_next) = true ∧ (am_okws AM_X6_next (am_rows AM_X6_next) ∧ am_okm AM_X6_next) := ⟨am_all_app am_ok0_X6_next am_ok1_X6_next, am_okws_app am_ow0_X6_next am_ow1_X6_next, (fun _ => ⟨⟨rfl, rfl, rfl, by decide +kernel, by decide +kernel, by decide +kernel⟩, rfl, rfl, by decide +kernel⟩)⟩
theorem am_ok0_X6_creedsNow : am_r0_X6_creedsNow.all (am_ok AM_X6_creedsNow) = true := by decide +kernel
set_option maxRecDepth 100000 in
theorem am_ow0_X6_creedsNow : am_okws AM_X6_creedsNow am_r0_X6_creedsNow := ⟨trivial, trivial, trivial, trivial, trivial, trivial, trivial, trivial, trivial, trivial, rfl, trivial, rfl, trivial, trivial, rfl, trivial, trivial, trivial, trivial, trivial, trivial, trivial, trivial, trivial, trivial, trivial⟩
set_option maxRecDepth 100000 in
theorem am_okr_X6_creedsNow : (am_rows AM_X6_creedsNow).all (am_ok AM_X6_creedsNow) = true ∧ (am_okws AM_X6_creedsNow (am_rows AM_X6_creedsNow) ∧ am_okm AM_X6_creedsNow) := ⟨am_ok0_X6_creedsNow, am_ow0_X6_creedsNow, (fun _ => ⟨⟨rfl, rfl, rfl, by decide +kernel, by decide +kernel, by decide +kernel⟩, rfl, rfl, by decide +kernel⟩)⟩
theorem am_ok0_X6_creedIn : am_r0_X6_creedIn.all (am_ok AM_X6_creedIn) = true := by decide +kernel
set_option maxRecDepth 100000 in
theorem am_ow0_X6_creedIn : am_okws AM_X6_creedIn am_r0_X6_creedIn := ⟨trivial, trivial, trivial, trivial, trivial, trivial, trivial, trivial, trivial, trivial, trivial, trivial, trivial, trivial, trivial, trivial, trivial, trivial⟩
set_option maxRecDepth 100000 in
theorem am_okr_X6_creedIn : (am_rows AM_X6_creedIn).all (am_ok AM_X6_creedIn) = true ∧ (am_okws AM_X6_creedIn (am_rows AM_X6_creedIn) ∧ am_okm AM_X6_creedIn) := ⟨am_ok0_X6_creedIn, am_ow0_X6_creedIn, (fun _ => ⟨⟨rfl, rfl, rfl, by decide +kernel, by decide +kernel, by decide +kernel⟩, rfl, by decide +kernel⟩)⟩
theorem am_ok0_X6_yearOn : am_r0_X6_yearOn.all (am_ok AM_X6_yearOn) = true := by decide +kernel
set_option maxRecDepth 100000 in
theorem am_ow0_X6_yearOn : am_okws AM_X6_yearOn am_r0_X6_yearOn := ⟨trivial, trivial, trivial, trivial, trivial, trivial, trivial, trivial, rfl, trivial, trivial, rfl, trivial, trivial, trivial, rfl, trivial, trivial, trivial, trivial, trivial, trivial, trivial, trivial, trivial, trivial, trivial, trivial, trivial, trivial, trivial, trivial, trivial, trivial, trivial, trivial, trivial, rfl, trivial, trivial, trivial, rfl, trivial, trivial, trivial, trivial, trivial, trivial, trivial, trivial, trivial, trivial, trivial, trivial, trivial, trivial, trivial, trivial, trivial, trivial, trivial⟩
theorem am_ok1_X6_yearOn : am_r1_X6_yearOn.all (am_ok AM_X6_yearOn) = true := by decide +kernel
set_option maxRecDepth 100000 in
theorem am_ow1_X6_yearOn : am_okws AM_X6_yearOn am_r1_X6_yearOn := ⟨trivial, trivial, trivial, trivial, trivial, trivial, trivial, trivial, trivial, trivial, trivial, trivial, trivial, trivial, trivial, trivial, trivial, trivial, trivial, trivial, trivial, trivial, rfl, trivial, rfl, trivial, trivial, trivial, trivial, trivial, trivial, trivial, trivial, trivial, trivial, trivial, trivial, trivial⟩
set_option maxRecDepth 100000 in
theorem am_okr_X6_yearOn : (am_rows AM_X6_yearOn).all (am_ok AM_X6_yearOn) = true ∧ (am_okws AM_X6_yearOn (am_rows AM_X6_yearOn) ∧ am_okm AM_X6_yearOn) := ⟨am_all_app am_ok0_X6_yearOn am_ok1_X6_yearOn, am_okws_app am_ow0_X6_yearOn am_ow1_X6_yearOn, (fun _ => ⟨⟨rfl, rfl, rfl, by decide +kernel, by decide +kernel, by decide +kernel⟩, rfl, rfl, by decide +kernel⟩)⟩
theorem am_ok0_X6_settle : am_r0_X6_settle.all (am_ok AM_X6_settle) = true := by decide +kernel
set_option maxRecDepth 100000 in
theorem am_ow0_X6_settle : am_okws AM_X6_settle am_r0_X6_settle := ⟨trivial, trivial, rfl, trivial, trivial, trivial, trivial, trivial, trivial, rfl, trivial, trivial, trivial, trivial, rfl, trivial, trivial, trivial, trivial, trivial, trivial, trivial, trivial, rfl, trivial, trivial, trivial, trivial, trivial, rfl, trivial, trivial⟩
set_option maxRecDepth 100000 in
theorem am_okr_X6_settle : (am_rows AM_X6_settle).all (am_ok AM_X6_settle) = true ∧ (am_okws AM_X6_settle (am_rows AM_X6_settle) ∧ am_okm AM_X6_settle) := ⟨am_ok0_X6_settle, am_ow0_X6_settle, (fun _ => ⟨⟨rfl, rfl, rfl, by decide +kernel, by decide +kernel, by decide +kernel⟩, rfl, rfl, by decide +kernel⟩)⟩
theorem am_ok0_X6_again : am_r0_X6_again.all (am_ok AM_X6_again) = true := by decide +kernel
set_option maxRecDepth 100000 in
theorem am_ow0_X6_again : am_okws AM_X6_again am_r0_X6_again := ⟨trivial, trivial, trivial, rfl, trivial, trivial, trivial, trivial, trivial, trivial, trivial, trivial, trivial, rfl, trivial, trivial, trivial, trivial, trivial, trivial, rfl, trivial, trivial, trivial, trivial, rfl, trivial, trivial, trivial, trivial, rfl, trivial, trivial, trivial, trivial, trivial, trivial, trivial, rfl, trivial, trivial, trivial, trivial, trivial, trivial, trivial, trivial, trivial, trivial, trivial, rfl, trivial, trivial, trivial, trivial, trivial⟩
set_option maxRecDepth 100000 in
theorem am_okr_X6_again : (am_rows AM_X6_again).all (am_ok AM_X6_again) = true ∧ (am_okws AM_X6_again (am_rows AM_X6_again) ∧ am_okm AM_X6_again) := ⟨am_ok0_X6_again, am_ow0_X6_again, (fun _ => ⟨⟨rfl, rfl, rfl, by decide +kernel, by decide +kernel, by decide +kernel⟩, rfl, rfl, by decide +kernel⟩)⟩
theorem am_ok0_X6_part : am_r0_X6_part.all (am_ok AM_X6_part) = true := by decide +kernel
set_option maxRecDepth 100000 in
theorem am_ow0_X6_part : am_okws AM_X6_part am_r0_X6_part := ⟨trivial, trivial, trivial, trivial, trivial, trivial, trivial, trivial, trivial, trivial, trivial, trivial, trivial, trivial, trivial, trivial, trivial, trivial, trivial, trivial, trivial, trivial, trivial, trivial, trivial, trivial, trivial, trivial⟩
set_option maxRecDepth 100000 in
theorem am_okr_X6_part : (am_rows AM_X6_part).all (am_ok AM_X6_part) = true ∧ (am_okws AM_X6_part (am_rows AM_X6_part) ∧ am_okm AM_X6_part) := ⟨am_ok0_X6_part, am_ow0_X6_part, (fun _ => ⟨⟨rfl, rfl, rfl, by decide +kernel, by decide +kernel, by decide +kernel⟩, rfl, by decide +kernel⟩)⟩
theorem am_ok0_X6_climb : am_r0_X6_climb.all (am_ok AM_X6_climb) = true := by decide +kernel
set_option maxRecDepth 100000 in
theorem am_ow0_X6_climb : am_okws AM_X6_climb am_r0_X6_climb := ⟨trivial, trivial, trivial, rfl, trivial, trivial, trivial, trivial, rfl, trivial, trivial, trivial, trivial, rfl, trivial, trivial, trivial, trivial, rfl, trivial, trivial, trivial, trivial, rfl, trivial, trivial, trivial, trivial, rfl, trivial, rfl, trivial, trivial, trivial, trivial, trivial, trivial, trivial, trivial, trivial, trivial, trivial, trivial, trivial, trivial, trivial, trivial, trivial, trivial, trivial, rfl, trivial, trivial, trivial, trivial, trivial, trivial, trivial, trivial, trivial, trivial⟩
theorem am_ok1_X6_climb : am_r1_X6_climb.all (am_ok AM_X6_climb) = true := by decide +kernel
set_option maxRecDepth 100000 in
theorem am_ow1_X6_climb : am_okws AM_X6_climb am_r1_X6_climb := ⟨trivial, trivial, trivial, trivial, trivial, trivial, trivial, trivial, trivial, trivial, trivial, trivial, trivial, trivial, trivial, trivial, trivial, trivial, trivial, trivial, trivial, trivial, trivial, trivial, trivial, trivial, trivial, trivial, trivial, trivial, trivial, trivial, trivial, trivial, trivial, trivial, trivial, rfl, trivial, trivial⟩
set_option maxRecDepth 100000 in
theorem am_okr_X6_climb : (am_rows AM_X6_climb).all (am_ok AM_X6_climb) = true ∧ (am_okws AM_X6_climb (am_rows AM_X6_climb) ∧ am_okm AM_X6_climb) := ⟨am_all_app am_ok0_X6_climb am_ok1_X6_climb, am_okws_app am_ow0_X6_climb am_ow1_X6_climb, (fun _ => ⟨⟨rfl, rfl, rfl, by decide +kernel, by decide +kernel, by decide +kernel⟩, rfl, rfl, by decide +kernel⟩)⟩
theorem am_ok0_X6_book : am_r0_X6_book.all (am_ok AM_X6_book) = true := by decide +kernel
set_option maxRecDepth 100000 in
theorem am_ow0_X6_book : am_okws AM_X6_book am_r0_X6_book := ⟨trivial, trivial, trivial, rfl, trivial, trivial, trivial, trivial, rfl, trivial, trivial, trivial, trivial, rfl, trivial, trivial, trivial, trivial, rfl, trivial, trivial, trivial, trivial, trivial, trivial, trivial, trivial, trivial, trivial, trivial, trivial, rfl, trivial, trivial, trivial, trivial, trivial, trivial, trivial, trivial, trivial, trivial, trivial, trivial, trivial, trivial, trivial, trivial, trivial, trivial, trivial, trivial, trivial, trivial, rfl, trivial, trivial, trivial, trivial, trivial, trivial⟩
theorem am_ok1_X6_book : am_r1_X6_book.all (am_ok AM_X6_book) = true := by decide +kernel
set_option maxRecDepth 100000 in
theorem am_ow1_X6_book : am_okws AM_X6_book am_r1_X6_book := ⟨trivial, trivial, trivial, trivial, trivial, trivial, trivial, rfl, trivial, trivial, trivial, trivial, trivial, trivial, rfl, trivial, trivial, trivial, trivial, trivial, trivial, trivial, trivial, rfl, trivial, trivial, trivial, trivial, trivial, trivial, trivial, trivial, trivial, trivial, trivial, trivial, rfl, trivial, rfl, trivial, trivial, rfl, trivial, trivial, trivial, trivial, trivial, trivial, trivial, trivial, trivial, trivial, trivial, trivial, trivial, rfl, trivial, trivial, rfl, trivial, trivial⟩
theorem am_ok2_X6_book : am_r2_X6_book.all (am_ok AM_X6_book) = true := by decide +kernel
set_option maxRecDepth 100000 in
theorem am_ow2_X6_book : am_okws AM_X6_book am_r2_X6_book := ⟨trivial, trivial, trivial, trivial, rfl, trivial, trivial, trivial, trivial⟩
set_option maxRecDepth 100000 in
theorem am_okr_X6_book : (am_rows AM_X6_book).all (am_ok AM_X6_book) = true ∧ (am_okws AM_X6_book (am_rows AM_X6_book) ∧ am_okm AM_X6_book) := ⟨am_all_app (am_all_app am_ok0_X6_book am_ok1_X6_book) am_ok2_X6_book, am_okws_app (am_okws_app am_ow0_X6_book am_ow1_X6_book) am_ow2_X6_book, (fun _ => ⟨⟨rfl, rfl, rfl, by decide +kernel, by decide +kernel, by decide +kernel⟩, rfl, rfl, by decide +kernel⟩)⟩
theorem am_ok0_X6_image : am_r0_X6_image.all (am_ok AM_X6_image) = true := by decide +kernel
set_option maxRecDepth 100000 in
theorem am_ow0_X6_image : am_okws AM_X6_image am_r0_X6_image := ⟨trivial, trivial, trivial, rfl, trivial, trivial, trivial, trivial, trivial, trivial, trivial, trivial, trivial, trivial, trivial, trivial, trivial, rfl, trivial, trivial, trivial, trivial, rfl, trivial, trivial, trivial, trivial, trivial, trivial, trivial, trivial, trivial, trivial, trivial, rfl, trivial, trivial, trivial, trivial, trivial, trivial, rfl, trivial, trivial, trivial, trivial, rfl, trivial, trivial, trivial, trivial, trivial, trivial, rfl, trivial, trivial, trivial, trivial, rfl, trivial, trivial⟩
theorem am_ok1_X6_image : am_r1_X6_image.all (am_ok AM_X6_image) = true := by decide +kernel
set_option maxRecDepth 100000 in
theorem am_ow1_X6_image : am_okws AM_X6_image am_r1_X6_image := ⟨trivial, trivial, trivial, trivial, trivial, rfl, trivial, trivial, trivial, trivial, trivial, trivial, trivial, trivial, trivial, trivial, trivial, rfl, trivial, trivial, trivial, trivial, trivial, trivial, rfl, trivial, trivial, trivial, trivial, trivial, trivial, trivial, trivial, trivial, trivial, trivial, rfl, trivial, trivial, trivial, trivial, trivial, trivial, rfl, trivial, trivial, trivial, trivial, trivial, trivial, trivial, trivial, trivial, trivial, trivial, rfl, trivial, trivial, trivial, trivial, trivial⟩
theorem am_ok2_X6_image : am_r2_X6_image.all (am_ok AM_X6_image) = true := by decide +kernel
set_option maxRecDepth 100000 in
theorem am_ow2_X6_image : am_okws AM_X6_image am_r2_X6_image := ⟨trivial, trivial, rfl, trivial, trivial, trivial, trivial, trivial, trivial, rfl, trivial, trivial, trivial, trivial, rfl, trivial, trivial, rfl, trivial, trivial, trivial, trivial, rfl, trivial, trivial, rfl, trivial, trivial, trivial, trivial, rfl, trivial, trivial, rfl, trivial, trivial, trivial, trivial, rfl, trivial, trivial, rfl, trivial, trivial, trivial, trivial, trivial, trivial⟩
set_option maxRecDepth 100000 in
theorem am_okr_X6_image : (am_rows AM_X6_image).all (am_ok AM_X6_image) = true ∧ (am_okws AM_X6_image (am_rows AM_X6_image) ∧ am_okm AM_X6_image) := ⟨am_all_app (am_all_app am_ok0_X6_image am_ok1_X6_image) am_ok2_X6_image, am_okws_app (am_okws_app am_ow0_X6_image am_ow1_X6_image) am_ow2_X6_image, (fun _ => ⟨⟨rfl, rfl, rfl, by decide +kernel, by decide +kernel, by decide +kernel⟩, rfl, rfl, by decide +kernel⟩)⟩
theorem am_ok0_X6_restore : am_r0_X6_restore.all (am_ok AM_X6_restore) = true := by decide +kernel
set_option maxRecDepth 100000 in
theorem am_ow0_X6_restore : am_okws AM_X6_restore am_r0_X6_restore := ⟨trivial, trivial, trivial, rfl, trivial, trivial, trivial, trivial, rfl, trivial, trivial, trivial, trivial, trivial, trivial, trivial, trivial, trivial, trivial, trivial, trivial, trivial, trivial, trivial, rfl, trivial, trivial, rfl, trivial, trivial, trivial, trivial, trivial, trivial, trivial, trivial, trivial, trivial, trivial, trivial, trivial, rfl, trivial, trivial, rfl, trivial, trivial, trivial, trivial, trivial, trivial, trivial, trivial, rfl, trivial, trivial, rfl, trivial, trivial, trivial, trivial⟩
theorem am_ok1_X6_restore : am_r1_X6_restore.all (am_ok AM_X6_restore) = true := by decide +kernel
set_option maxRecDepth 100000 in
theorem am_ow1_X6_restore : am_okws AM_X6_restore am_r1_X6_restore := ⟨trivial, trivial, trivial, trivial, trivial, rfl, trivial, trivial, rfl, trivial, trivial, trivial, trivial, trivial, trivial, trivial, trivial, trivial, trivial, trivial, trivial, trivial, trivial, trivial, rfl, trivial, trivial, rfl, trivial, trivial, trivial, trivial, trivial, trivial, trivial, trivial, trivial, trivial, trivial, trivial, trivial, trivial, trivial, rfl, trivial, trivial, rfl, trivial, trivial, trivial, trivial, trivial, trivial, trivial, trivial, trivial, trivial, trivial, trivial, trivial, trivial⟩
theorem am_ok2_X6_restore : am_r2_X6_restore.all (am_ok AM_X6_restore) = true := by decide +kernel
set_option maxRecDepth 100000 in
theorem am_ow2_X6_restore : am_okws AM_X6_restore am_r2_X6_restore := ⟨trivial, trivial, rfl, trivial, trivial, rfl, trivial, trivial, trivial, trivial, trivial, trivial, trivial, trivial, trivial, trivial, trivial, rfl, trivial, trivial, trivial, trivial, rfl, trivial, trivial, rfl, trivial, trivial, trivial, trivial, rfl, trivial, trivial, rfl, trivial, trivial, trivial, trivial, rfl, trivial, trivial, rfl, trivial, trivial, trivial, trivial, rfl, trivial, trivial, trivial⟩
set_option maxRecDepth 100000 in
theorem am_okr_X6_restore : (am_rows AM_X6_restore).all (am_ok AM_X6_restore) = true ∧ (am_okws AM_X6_restore (am_rows AM_X6_restore) ∧ am_okm AM_X6_restore) := ⟨am_all_app (am_all_app am_ok0_X6_restore am_ok1_X6_restore) am_ok2_X6_restore, am_okws_app (am_okws_app am_ow0_X6_restore am_ow1_X6_restore) am_ow2_X6_restore, (fun _ => ⟨⟨rfl, rfl, rfl, by decide +kernel, by decide +kernel, by decide +kernel⟩, rfl, rfl, by decide +kernel⟩)⟩
theorem am_ok0_X6_told : am_r0_X6_told.all (am_ok AM_X6_told) = true := by decide +kernel
set_option maxRecDepth 100000 in
theorem am_ow0_X6_told : am_okws AM_X6_told am_r0_X6_told := ⟨trivial, trivial, trivial, trivial, trivial, trivial, trivial, trivial, trivial, trivial, rfl, trivial, trivial, rfl, trivial, rfl, trivial, trivial, trivial, rfl, trivial, trivial, trivial, trivial, trivial, rfl, trivial, trivial, trivial, trivial, trivial, rfl, trivial, trivial, trivial, trivial, trivial, trivial, trivial, trivial, trivial, trivial, trivial, trivial, trivial, trivial, trivial, trivial, trivial, trivial, trivial, trivial, rfl, trivial, trivial, rfl, trivial, trivial, trivial, rfl, trivial⟩
theorem am_ok1_X6_told : am_r1_X6_told.all (am_ok AM_X6_told) = true := by decide +kernel
set_option maxRecDepth 100000 in
theorem am_ow1_X6_told : am_okws AM_X6_told am_r1_X6_told := ⟨trivial, trivial, trivial, trivial, trivial, trivial, trivial, trivial, trivial, trivial, trivial, trivial, trivial, trivial, trivial, trivial, trivial, trivial, trivial, rfl, trivial, trivial, trivial, trivial, trivial, trivial, trivial, trivial, rfl, trivial, trivial, trivial, trivial, trivial, trivial, trivial, trivial, trivial, trivial, trivial, trivial, trivial, trivial, trivial, trivial, rfl, trivial, trivial, trivial, trivial, trivial, trivial, trivial, rfl, trivial, trivial, trivial, trivial, trivial, trivial, trivial⟩
theorem am_ok2_X6_told : am_r2_X6_told.all (am_ok AM_X6_told) = true := by decide +kernel
set_option maxRecDepth 100000 in
theorem am_ow2_X6_told : am_okws AM_X6_told am_r2_X6_told := ⟨trivial, trivial, trivial, trivial, trivial, trivial, trivial, trivial, trivial, trivial, trivial, trivial, rfl, trivial, trivial, trivial, trivial, trivial, trivial, trivial, trivial, trivial, trivial, trivial, trivial, rfl, trivial, trivial, rfl, trivial, trivial, rfl, trivial, trivial, trivial, trivial, rfl, trivial, trivial, rfl, trivial, trivial, trivial, trivial, rfl, trivial, trivial, trivial, trivial, trivial, rfl, trivial, trivial, trivial, trivial⟩
set_option maxRecDepth 100000 in
theorem am_okr_X6_told : (am_rows AM_X6_told).all (am_ok AM_X6_told) = true ∧ (am_okws AM_X6_told (am_rows AM_X6_told) ∧ am_okm AM_X6_told) := ⟨am_all_app (am_all_app am_ok0_X6_told am_ok1_X6_told) am_ok2_X6_told, am_okws_app (am_okws_app am_ow0_X6_told am_ow1_X6_told) am_ow2_X6_told, (fun _ => ⟨⟨rfl, rfl, rfl, by decide +kernel, by decide +kernel, by decide +kernel⟩, rfl, rfl, by decide +kernel⟩)⟩
theorem am_ok0_J6_bitCount_0f7a4 : am_r0_J6_bitCount_0f7a4.all (am_ok AM_J6_bitCount_0f7a4) = true := by decide +kernel
set_option maxRecDepth 100000 in
theorem am_ow0_J6_bitCount_0f7a4 : am_okws AM_J6_bitCount_0f7a4 am_r0_J6_bitCount_0f7a4 := ⟨trivial, trivial, trivial, trivial, rfl, trivial, trivial, trivial, trivial, rfl, trivial, trivial, trivial, trivial, rfl, trivial, trivial, trivial, trivial, trivial, trivial, trivial, trivial, rfl, trivial, trivial, trivial, trivial, trivial, trivial, trivial, trivial, trivial, trivial, trivial, trivial, trivial, trivial, trivial, trivial, trivial, trivial, trivial⟩
set_option maxRecDepth 100000 in
theorem am_okr_J6_bitCount_0f7a4 : (am_rows AM_J6_bitCount_0f7a4).all (am_ok AM_J6_bitCount_0f7a4) = true ∧ (am_okws AM_J6_bitCount_0f7a4 (am_rows AM_J6_bitCount_0f7a4) ∧ am_okm AM_J6_bitCount_0f7a4) := ⟨am_ok0_J6_bitCount_0f7a4, am_ow0_J6_bitCount_0f7a4, (fun _ => ⟨⟨rfl, rfl, rfl, by decide +kernel, by decide +kernel, by decide +kernel⟩, rfl, by decide +kernel⟩)⟩
theorem am_ok0_L_law : am_r0_L_law.all (am_ok AM_L_law) = true := by decide +kernel
set_option maxRecDepth 100000 in
theorem am_ow0_L_law : am_okws AM_L_law am_r0_L_law := ⟨rfl, trivial, rfl, trivial, rfl, trivial, rfl, trivial, trivial, trivial, trivial, trivial, trivial, trivial, trivial, trivial, trivial, trivial, trivial, trivial, trivial, trivial, trivial, trivial, trivial, trivial, trivial, trivial, trivial, trivial, trivial, trivial, trivial, rfl, trivial, trivial, trivial, trivial, trivial, trivial, trivial, trivial, trivial, trivial, trivial, rfl, trivial, trivial, trivial, trivial, trivial, trivial, trivial, trivial, trivial, rfl, trivial, trivial, trivial, trivial, trivial⟩
theorem am_ok1_L_law : am_r1_L_law.all (am_ok AM_L_law) = true := by decide +kernel
set_option maxRecDepth 100000 in
theorem am_ow1_L_law : am_okws AM_L_law am_r1_L_law := ⟨trivial, trivial, rfl, trivial, trivial, trivial, trivial, trivial, trivial, trivial, trivial, trivial, trivial, trivial, trivial, trivial, trivial, trivial, trivial, trivial, trivial, trivial, rfl, trivial, trivial, trivial, trivial, trivial, trivial, trivial, trivial, trivial, trivial, trivial, trivial, trivial, trivial, trivial, trivial, rfl, trivial, trivial, trivial, trivial, trivial, trivial, trivial, trivial, trivial, rfl, trivial, trivial, trivial, trivial, trivial, trivial, rfl, trivial, trivial, trivial, trivial⟩
theorem am_ok2_L_law : am_r2_L_law.all (am_ok AM_L_law) = true := by decide +kernel
set_option maxRecDepth 100000 in
theorem am_ow2_L_law : am_okws AM_L_law am_r2_L_law := ⟨trivial, trivial, trivial, trivial, trivial, trivial, trivial, trivial, trivial, trivial, trivial, trivial, trivial, trivial, trivial, trivial, trivial, trivial, trivial, trivial, rfl, trivial, trivial, trivial, trivial, trivial, trivial, trivial, trivial, trivial, trivial, trivial, trivial, trivial, trivial, trivial, trivial, trivial, trivial, trivial, trivial, rfl, trivial, trivial, trivial, trivial, trivial, trivial, trivial, trivial, trivial, trivial, trivial, trivial, trivial, trivial, trivial, trivial, trivial, trivial, trivial⟩
theorem am_ok3_L_law : am_r3_L_law.all (am_ok AM_L_law) = true := by decide +kernel
set_option maxRecDepth 100000 in
theorem am_ow3_L_law : am_okws AM_L_law am_r3_L_law := ⟨trivial, trivial, trivial, trivial, trivial, trivial, rfl, trivial, trivial, trivial, trivial, trivial, trivial, trivial, trivial, trivial, trivial, trivial, trivial, trivial, trivial, trivial, trivial, trivial, trivial, trivial, trivial, trivial, rfl, trivial, trivial, trivial, trivial, trivial, trivial, trivial, trivial, trivial, rfl, trivial, trivial, trivial, trivial, trivial, trivial, rfl, trivial, trivial, trivial, trivial, rfl, trivial, rfl, trivial, trivial, trivial, trivial, rfl, trivial, rfl, trivial⟩
theorem am_ok4_L_law : am_r4_L_law.all (am_ok AM_L_law) = true := by decide +kernel
set_option maxRecDepth 100000 in
theorem am_ow4_L_law : am_okws AM_L_law am_r4_L_law := ⟨trivial, trivial, trivial, trivial, trivial, trivial, trivial, trivial, trivial, rfl, trivial, trivial, trivial, trivial, trivial, trivial, rfl, trivial, trivial, trivial, trivial, rfl, trivial, rfl, trivial, trivial, trivial, trivial, trivial, trivial, trivial, trivial, trivial, trivial, trivial, trivial, trivial, trivial, rfl, trivial, trivial, trivial, trivial, trivial, trivial, trivial, trivial, trivial, trivial, trivial, rfl, trivial, trivial, trivial, trivial, trivial, trivial, trivial, trivial, trivial, trivial⟩
theorem am_ok5_L_law : am_r5_L_law.all (am_ok AM_L_law) = true := by decide +kernel
set_option maxRecDepth 100000 in
theorem am_ow5_L_law : am_okws AM_L_law am_r5_L_law := ⟨trivial, trivial, trivial, trivial, trivial, rfl, trivial, trivial, trivial, trivial, trivial, trivial, trivial, trivial, trivial, trivial, trivial, rfl, trivial, trivial, trivial, trivial, trivial, trivial, trivial, trivial, trivial, rfl, trivial, trivial, trivial, trivial, trivial, trivial, rfl, trivial, trivial, trivial, trivial, trivial, trivial, trivial, trivial, trivial, rfl, trivial, trivial, trivial, trivial, trivial, trivial, rfl, trivial, trivial, trivial, trivial, trivial, trivial, trivial, trivial, trivial⟩
theorem am_ok6_L_law : am_r6_L_law.all (am_ok AM_L_law) = true := by decide +kernel
set_option maxRecDepth 100000 in
theorem am_ow6_L_law : am_okws AM_L_law am_r6_L_law := ⟨trivial, trivial, trivial, trivial, trivial, trivial, rfl, trivial, trivial, trivial, trivial, trivial, trivial, trivial, trivial, trivial, trivial, trivial, rfl, trivial, trivial, trivial, trivial, trivial, trivial, trivial, trivial, trivial, trivial, trivial, trivial, trivial, trivial, trivial, trivial, trivial, trivial, trivial, rfl, trivial, trivial, trivial, trivial, trivial, trivial, trivial, trivial, trivial, trivial, trivial, trivial, trivial, trivial, trivial, trivial, rfl, trivial, trivial, trivial, trivial, trivial⟩
theorem am_ok7_L_law : am_r7_L_law.all (am_ok AM_L_law) = true := by decide +kernel
set_option maxRecDepth 100000 in
theorem am_ow7_L_law : am_okws AM_L_law am_r7_L_law := ⟨trivial, trivial, trivial, trivial, trivial, trivial, trivial, trivial, trivial, trivial, trivial, trivial, trivial, trivial, trivial, trivial, trivial, trivial, trivial, trivial, rfl, trivial, trivial, trivial, trivial, trivial, trivial, trivial, trivial, trivial, trivial, trivial, trivial, trivial, trivial, trivial, trivial, trivial, trivial, trivial, trivial, trivial, rfl, trivial, trivial, trivial, trivial, trivial, trivial, trivial, trivial, trivial, trivial, trivial, trivial, trivial, trivial, trivial, trivial, trivial, trivial⟩
theorem am_ok8_L_law : am_r8_L_law.all (am_ok AM_L_law) = true := by decide +kernel
set_option maxRecDepth 100000 in
theorem am_ow8_L_law : am_okws AM_L_law am_r8_L_law := ⟨trivial, trivial, trivial, trivial, trivial, trivial, trivial, rfl, trivial, trivial, trivial, trivial, trivial, trivial, trivial, trivial, trivial, trivial, trivial, trivial, trivial, trivial, trivial, trivial, trivial, trivial, trivial, trivial, trivial, rfl, trivial, trivial, trivial, trivial, trivial, trivial, trivial, trivial, trivial, trivial, trivial, trivial, trivial, trivial, rfl, trivial, trivial, trivial, trivial, trivial, trivial, trivial, trivial, trivial, trivial, trivial, rfl, trivial, trivial, trivial, trivial⟩
theorem am_ok9_L_law : am_r9_L_law.all (am_ok AM_L_law) = true := by decide +kernel
set_option maxRecDepth 100000 in
theorem am_ow9_L_law : am_okws AM_L_law am_r9_L_law := ⟨trivial, trivial, trivial, trivial, trivial, trivial, trivial, trivial, trivial, trivial, trivial, rfl, trivial, trivial, trivial, trivial, trivial, trivial, trivial, trivial, trivial, trivial, trivial, rfl, trivial, trivial, trivial, trivial, rfl, trivial, rfl, trivial, trivial, trivial, trivial, trivial, trivial, trivial, trivial, trivial, rfl, trivial, trivial, trivial, trivial, trivial, trivial, rfl, trivial, trivial, trivial, trivial, trivial, trivial, trivial, trivial, trivial, rfl, trivial, trivial, trivial⟩
theorem am_ok10_L_law : am_r10_L_law.all (am_ok AM_L_law) = true := by decide +kernel
set_option maxRecDepth 100000 in
theorem am_ow10_L_law : am_okws AM_L_law am_r10_L_law := ⟨trivial, trivial, trivial, trivial, rfl, trivial, trivial, trivial, trivial, trivial, trivial, trivial, trivial, trivial, trivial, trivial, trivial, trivial, trivial, rfl, trivial, trivial, trivial, trivial, trivial, trivial, trivial, trivial, trivial, trivial, trivial, rfl, trivial, trivial, trivial, trivial, trivial, trivial, trivial, trivial, trivial, rfl, trivial, trivial, trivial, trivial, trivial, trivial, rfl, trivial, trivial, trivial, trivial, trivial, trivial, trivial, trivial, trivial, trivial, trivial, trivial⟩
theorem am_ok11_L_law : am_r11_L_law.all (am_ok AM_L_law) = true := by decide +kernel
set_option maxRecDepth 100000 in
theorem am_ow11_L_law : am_okws AM_L_law am_r11_L_law := ⟨trivial, trivial, trivial, trivial, trivial, trivial, trivial, trivial, trivial, trivial, trivial, trivial, trivial, trivial, trivial, trivial, trivial, trivial, trivial, trivial, trivial, trivial, trivial, rfl, trivial, trivial, trivial, trivial, trivial, trivial, trivial, trivial, trivial, trivial, trivial, trivial, trivial, trivial, trivial, trivial, trivial, trivial, trivial, trivial, trivial, trivial, trivial, trivial, trivial, trivial, trivial, trivial, trivial, trivial, trivial, rfl, trivial, trivial, trivial, trivial, trivial⟩
theorem am_ok12_L_law : am_r12_L_law.all (am_ok AM_L_law) = true := by decide +kernel
set_option maxRecDepth 100000 in
theorem am_ow12_L_law : am_okws AM_L_law am_r12_L_law := ⟨trivial, trivial, trivial, trivial, trivial, trivial, trivial, trivial, trivial, trivial, trivial, trivial, trivial, trivial, trivial, trivial, rfl, trivial, trivial, trivial, trivial, trivial, trivial, trivial, trivial, trivial, trivial, trivial, trivial, trivial, trivial, trivial, trivial, rfl, trivial, trivial, trivial, trivial, trivial, trivial, trivial, trivial, trivial, rfl, trivial, trivial, trivial, trivial, trivial, trivial, rfl, trivial, trivial, trivial, trivial, trivial, trivial, trivial, trivial, trivial, trivial⟩
theorem am_ok13_L_law : am_r13_L_law.all (am_ok AM_L_law) = true := by decide +kernel
set_option maxRecDepth 100000 in
theorem am_ow13_L_law : am_okws AM_L_law am_r13_L_law := ⟨rfl, trivial, trivial, trivial, trivial, trivial, trivial, rfl, trivial, trivial, trivial, trivial, trivial, trivial, trivial, trivial, trivial, rfl, trivial, trivial, trivial, trivial, trivial, trivial, rfl, trivial, trivial, trivial, trivial, trivial, trivial, trivial, trivial⟩
set_option maxRecDepth 100000 in
theorem am_okr_L_law : (am_rows AM_L_law).all (am_ok AM_L_law) = true ∧ (am_okws AM_L_law (am_rows AM_L_law) ∧ am_okm AM_L_law) := ⟨am_all_app (am_all_app (am_all_app (am_all_app (am_all_app (am_all_app (am_all_app (am_all_app (am_all_app (am_all_app (am_all_app (am_all_app (am_all_app am_ok0_L_law am_ok1_L_law) am_ok2_L_law) am_ok3_L_law) am_ok4_L_law) am_ok5_L_law) am_ok6_L_law) am_ok7_L_law) am_ok8_L_law) am_ok9_L_law) am_ok10_L_law) am_ok11_L_law) am_ok12_L_law) am_ok13_L_law, am_okws_app (am_okws_app (am_okws_app (am_okws_app (am_okws_app (am_okws_app (am_okws_app (am_okws_app (am_okws_app (am_okws_app (am_okws_app (am_okws_app (am_okws_app am_ow0_L_law am_ow1_L_law) am_ow2_L_law) am_ow3_L_law) am_ow4_L_law) am_ow5_L_law) am_ow6_L_law) am_ow7_L_law) am_ow8_L_law) am_ow9_L_law) am_ow10_L_law) am_ow11_L_law) am_ow12_L_law) am_ow13_L_law, (fun h => absurd h (by decide))⟩
def am_mt0 : List AMinfo := [AM_X0_init, AM_X0_add, AM_X0_faultPlace, AM_X0_roomBehind, AM_X0_isOneSign, AM_X0_isCreedSign, AM_X0_endsAct, AM_X0_kindAt, AM_X0_oneAt, AM_X0_targetAt, AM_X1_init, AM_X1_get, AM_X1_set, AM_X1_copyFrom, AM_X2_init, AM_X2_start, AM_X2_passYear, AM_X2_choiceOf, AM_X2_holdersOf, AM_X2_findAgain]
theorem am_mt0_ok : ∀ M ∈ am_mt0, (am_rows M).all (am_ok M) = true ∧ (am_okws M (am_rows M) ∧ am_okm M) := List.forall_mem_cons.mpr ⟨am_okr_X0_init, List.forall_mem_cons.mpr ⟨am_okr_X0_add, List.forall_mem_cons.mpr ⟨am_okr_X0_faultPlace, List.forall_mem_cons.mpr ⟨am_okr_X0_roomBehind, List.forall_mem_cons.mpr ⟨am_okr_X0_isOneSign, List.forall_mem_cons.mpr ⟨am_okr_X0_isCreedSign, List.forall_mem_cons.mpr ⟨am_okr_X0_endsAct, List.forall_mem_cons.mpr ⟨am_okr_X0_kindAt, List.forall_mem_cons.mpr ⟨am_okr_X0_oneAt, List.forall_mem_cons.mpr ⟨am_okr_X0_targetAt, List.forall_mem_cons.mpr ⟨am_okr_X1_init, List.forall_mem_cons.mpr ⟨am_okr_X1_get, List.forall_mem_cons.mpr ⟨am_okr_X1_set, List.forall_mem_cons.mpr ⟨am_okr_X1_copyFrom, List.forall_mem_cons.mpr ⟨am_okr_X2_init, List.forall_mem_cons.mpr ⟨am_okr_X2_start, List.forall_mem_cons.mpr ⟨am_okr_X2_passYear, List.forall_mem_cons.mpr ⟨am_okr_X2_choiceOf, List.forall_mem_cons.mpr ⟨am_okr_X2_holdersOf, List.forall_mem_cons.mpr ⟨am_okr_X2_findAgain, fun _ h => absurd h List.not_mem_nil⟩⟩⟩⟩⟩⟩⟩⟩⟩⟩⟩⟩⟩⟩⟩⟩⟩⟩⟩⟩
def am_mt1 : List AMinfo := [AM_X2_heldAsNumber, AM_X3_init, AM_X3_start, AM_X3_tellYears, AM_X3_tellBook, AM_X3_kindDrawn, AM_X3_tellAct, AM_X4_init, AM_X4_copyFrom, AM_X4_isThere, AM_X4_areThere, AM_X4_stands, AM_X4_wallTold, AM_X4_setKin, AM_X4_kinTwos, AM_X4_downFor, AM_X4_carries, AM_X4_wallsFor, AM_X4_carriesAll, AM_X4_leansFor]
theorem am_mt1_ok : ∀ M ∈ am_mt1, (am_rows M).all (am_ok M) = true ∧ (am_okws M (am_rows M) ∧ am_okm M) := List.forall_mem_cons.mpr ⟨am_okr_X2_heldAsNumber, List.forall_mem_cons.mpr ⟨am_okr_X3_init, List.forall_mem_cons.mpr ⟨am_okr_X3_start, List.forall_mem_cons.mpr ⟨am_okr_X3_tellYears, List.forall_mem_cons.mpr ⟨am_okr_X3_tellBook, List.forall_mem_cons.mpr ⟨am_okr_X3_kindDrawn, List.forall_mem_cons.mpr ⟨am_okr_X3_tellAct, List.forall_mem_cons.mpr ⟨am_okr_X4_init, List.forall_mem_cons.mpr ⟨am_okr_X4_copyFrom, List.forall_mem_cons.mpr ⟨am_okr_X4_isThere, List.forall_mem_cons.mpr ⟨am_okr_X4_areThere, List.forall_mem_cons.mpr ⟨am_okr_X4_stands, List.forall_mem_cons.mpr ⟨am_okr_X4_wallTold, List.forall_mem_cons.mpr ⟨am_okr_X4_setKin, List.forall_mem_cons.mpr ⟨am_okr_X4_kinTwos, List.forall_mem_cons.mpr ⟨am_okr_X4_downFor, List.forall_mem_cons.mpr ⟨am_okr_X4_carries, List.forall_mem_cons.mpr ⟨am_okr_X4_wallsFor, List.forall_mem_cons.mpr ⟨am_okr_X4_carriesAll, List.forall_mem_cons.mpr ⟨am_okr_X4_leansFor, fun _ h => absurd h List.not_mem_nil⟩⟩⟩⟩⟩⟩⟩⟩⟩⟩⟩⟩⟩⟩⟩⟩⟩⟩⟩⟩
def am_mt2 : List AMinfo := [AM_X4_stepsFrom, AM_X4_doubtOfAll, AM_X4_reasonAgainst, AM_X4_enact, AM_X4_build, AM_X4_tryWall, AM_X4_quake, AM_X5_init, AM_X5_creed, AM_X5_bear, AM_X5_one, AM_X5_leave, AM_X5_kin, AM_X5_stair, AM_X5_say, AM_X5_wipe, AM_X5_fault, AM_X5_judge, AM_X5_done, AM_X5_behind]
theorem am_mt2_ok : ∀ M ∈ am_mt2, (am_rows M).all (am_ok M) = true ∧ (am_okws M (am_rows M) ∧ am_okm M) := List.forall_mem_cons.mpr ⟨am_okr_X4_stepsFrom, List.forall_mem_cons.mpr ⟨am_okr_X4_doubtOfAll, List.forall_mem_cons.mpr ⟨am_okr_X4_reasonAgainst, List.forall_mem_cons.mpr ⟨am_okr_X4_enact, List.forall_mem_cons.mpr ⟨am_okr_X4_build, List.forall_mem_cons.mpr ⟨am_okr_X4_tryWall, List.forall_mem_cons.mpr ⟨am_okr_X4_quake, List.forall_mem_cons.mpr ⟨am_okr_X5_init, List.forall_mem_cons.mpr ⟨am_okr_X5_creed, List.forall_mem_cons.mpr ⟨am_okr_X5_bear, List.forall_mem_cons.mpr ⟨am_okr_X5_one, List.forall_mem_cons.mpr ⟨am_okr_X5_leave, List.forall_mem_cons.mpr ⟨am_okr_X5_kin, List.forall_mem_cons.mpr ⟨am_okr_X5_stair, List.forall_mem_cons.mpr ⟨am_okr_X5_say, List.forall_mem_cons.mpr ⟨am_okr_X5_wipe, List.forall_mem_cons.mpr ⟨am_okr_X5_fault, List.forall_mem_cons.mpr ⟨am_okr_X5_judge, List.forall_mem_cons.mpr ⟨am_okr_X5_done, List.forall_mem_cons.mpr ⟨am_okr_X5_behind, fun _ h => absurd h List.not_mem_nil⟩⟩⟩⟩⟩⟩⟩⟩⟩⟩⟩⟩⟩⟩⟩⟩⟩⟩⟩⟩
def am_mt3 : List AMinfo := [AM_X5_wall, AM_X5_fell, AM_X5_bears, AM_X5_all, AM_X5_wedges, AM_X5_meet, AM_X5_ways, AM_X5_reach, AM_X5_seen, AM_X5_forget, AM_X5_downs, AM_X5_next, AM_X5_settle, AM_X5_again, AM_X5_climb, AM_X5_book, AM_X5_image, AM_X5_restore, AM_X5_told, AM_X5_isIn]
theorem am_mt3_ok : ∀ M ∈ am_mt3, (am_rows M).all (am_ok M) = true ∧ (am_okws M (am_rows M) ∧ am_okm M) := List.forall_mem_cons.mpr ⟨am_okr_X5_wall, List.forall_mem_cons.mpr ⟨am_okr_X5_fell, List.forall_mem_cons.mpr ⟨am_okr_X5_bears, List.forall_mem_cons.mpr ⟨am_okr_X5_all, List.forall_mem_cons.mpr ⟨am_okr_X5_wedges, List.forall_mem_cons.mpr ⟨am_okr_X5_meet, List.forall_mem_cons.mpr ⟨am_okr_X5_ways, List.forall_mem_cons.mpr ⟨am_okr_X5_reach, List.forall_mem_cons.mpr ⟨am_okr_X5_seen, List.forall_mem_cons.mpr ⟨am_okr_X5_forget, List.forall_mem_cons.mpr ⟨am_okr_X5_downs, List.forall_mem_cons.mpr ⟨am_okr_X5_next, List.forall_mem_cons.mpr ⟨am_okr_X5_settle, List.forall_mem_cons.mpr ⟨am_okr_X5_again, List.forall_mem_cons.mpr ⟨am_okr_X5_climb, List.forall_mem_cons.mpr ⟨am_okr_X5_book, List.forall_mem_cons.mpr ⟨am_okr_X5_image, List.forall_mem_cons.mpr ⟨am_okr_X5_restore, List.forall_mem_cons.mpr ⟨am_okr_X5_told, List.forall_mem_cons.mpr ⟨am_okr_X5_isIn, fun _ h => absurd h List.not_mem_nil⟩⟩⟩⟩⟩⟩⟩⟩⟩⟩⟩⟩⟩⟩⟩⟩⟩⟩⟩⟩
def am_mt4 : List AMinfo := [AM_X5_isLean, AM_X5_isPlace, AM_X5_has, AM_X5_leastOf, AM_X5_nearestOf, AM_X5_downsThat, AM_X5_mostLeftBy, AM_X5_stepBehind, AM_X5_lowestTerm, AM_X5_commonDivisor, AM_X5_imageAt, AM_X5_toldOfAll, AM_X5_toldOfOne, AM_X5_toldOfWall, AM_X5_toldOfStair, AM_X6_init, AM_X6_in, AM_X6_has, AM_X6_bits, AM_X6_isThere]
theorem am_mt4_ok : ∀ M ∈ am_mt4, (am_rows M).all (am_ok M) = true ∧ (am_okws M (am_rows M) ∧ am_okm M) := List.forall_mem_cons.mpr ⟨am_okr_X5_isLean, List.forall_mem_cons.mpr ⟨am_okr_X5_isPlace, List.forall_mem_cons.mpr ⟨am_okr_X5_has, List.forall_mem_cons.mpr ⟨am_okr_X5_leastOf, List.forall_mem_cons.mpr ⟨am_okr_X5_nearestOf, List.forall_mem_cons.mpr ⟨am_okr_X5_downsThat, List.forall_mem_cons.mpr ⟨am_okr_X5_mostLeftBy, List.forall_mem_cons.mpr ⟨am_okr_X5_stepBehind, List.forall_mem_cons.mpr ⟨am_okr_X5_lowestTerm, List.forall_mem_cons.mpr ⟨am_okr_X5_commonDivisor, List.forall_mem_cons.mpr ⟨am_okr_X5_imageAt, List.forall_mem_cons.mpr ⟨am_okr_X5_toldOfAll, List.forall_mem_cons.mpr ⟨am_okr_X5_toldOfOne, List.forall_mem_cons.mpr ⟨am_okr_X5_toldOfWall, List.forall_mem_cons.mpr ⟨am_okr_X5_toldOfStair, List.forall_mem_cons.mpr ⟨am_okr_X6_init, List.forall_mem_cons.mpr ⟨am_okr_X6_in, List.forall_mem_cons.mpr ⟨am_okr_X6_has, List.forall_mem_cons.mpr ⟨am_okr_X6_bits, List.forall_mem_cons.mpr ⟨am_okr_X6_isThere, fun _ h => absurd h List.not_mem_nil⟩⟩⟩⟩⟩⟩⟩⟩⟩⟩⟩⟩⟩⟩⟩⟩⟩⟩⟩⟩
def am_mt5 : List AMinfo := [AM_X6_isLean, AM_X6_doesBear, AM_X6_creed, AM_X6_bear, AM_X6_one, AM_X6_leave, AM_X6_kin, AM_X6_isPlace, AM_X6_stair, AM_X6_say, AM_X6_wipe, AM_X6_faultOf, AM_X6_fault, AM_X6_asNow, AM_X6_build, AM_X6_climbUp, AM_X6_convert, AM_X6_quake, AM_X6_endYear, AM_X6_goYears]
theorem am_mt5_ok : ∀ M ∈ am_mt5, (am_rows M).all (am_ok M) = true ∧ (am_okws M (am_rows M) ∧ am_okm M) := List.forall_mem_cons.mpr ⟨am_okr_X6_isLean, List.forall_mem_cons.mpr ⟨am_okr_X6_doesBear, List.forall_mem_cons.mpr ⟨am_okr_X6_creed, List.forall_mem_cons.mpr ⟨am_okr_X6_bear, List.forall_mem_cons.mpr ⟨am_okr_X6_one, List.forall_mem_cons.mpr ⟨am_okr_X6_leave, List.forall_mem_cons.mpr ⟨am_okr_X6_kin, List.forall_mem_cons.mpr ⟨am_okr_X6_isPlace, List.forall_mem_cons.mpr ⟨am_okr_X6_stair, List.forall_mem_cons.mpr ⟨am_okr_X6_say, List.forall_mem_cons.mpr ⟨am_okr_X6_wipe, List.forall_mem_cons.mpr ⟨am_okr_X6_faultOf, List.forall_mem_cons.mpr ⟨am_okr_X6_fault, List.forall_mem_cons.mpr ⟨am_okr_X6_asNow, List.forall_mem_cons.mpr ⟨am_okr_X6_build, List.forall_mem_cons.mpr ⟨am_okr_X6_climbUp, List.forall_mem_cons.mpr ⟨am_okr_X6_convert, List.forall_mem_cons.mpr ⟨am_okr_X6_quake, List.forall_mem_cons.mpr ⟨am_okr_X6_endYear, List.forall_mem_cons.mpr ⟨am_okr_X6_goYears, fun _ h => absurd h List.not_mem_nil⟩⟩⟩⟩⟩⟩⟩⟩⟩⟩⟩⟩⟩⟩⟩⟩⟩⟩⟩⟩
def am_mt6 : List AMinfo := [AM_X6_judge, AM_X6_barOfYears, AM_X6_done, AM_X6_behind, AM_X6_wall, AM_X6_fell, AM_X6_bears, AM_X6_areThere, AM_X6_bearsAll, AM_X6_all, AM_X6_wedges, AM_X6_meet, AM_X6_layFar, AM_X6_ways, AM_X6_reach, AM_X6_seen, AM_X6_forget, AM_X6_howIs, AM_X6_fits, AM_X6_downs]
theorem am_mt6_ok : ∀ M ∈ am_mt6, (am_rows M).all (am_ok M) = true ∧ (am_okws M (am_rows M) ∧ am_okm M) := List.forall_mem_cons.mpr ⟨am_okr_X6_judge, List.forall_mem_cons.mpr ⟨am_okr_X6_barOfYears, List.forall_mem_cons.mpr ⟨am_okr_X6_done, List.forall_mem_cons.mpr ⟨am_okr_X6_behind, List.forall_mem_cons.mpr ⟨am_okr_X6_wall, List.forall_mem_cons.mpr ⟨am_okr_X6_fell, List.forall_mem_cons.mpr ⟨am_okr_X6_bears, List.forall_mem_cons.mpr ⟨am_okr_X6_areThere, List.forall_mem_cons.mpr ⟨am_okr_X6_bearsAll, List.forall_mem_cons.mpr ⟨am_okr_X6_all, List.forall_mem_cons.mpr ⟨am_okr_X6_wedges, List.forall_mem_cons.mpr ⟨am_okr_X6_meet, List.forall_mem_cons.mpr ⟨am_okr_X6_layFar, List.forall_mem_cons.mpr ⟨am_okr_X6_ways, List.forall_mem_cons.mpr ⟨am_okr_X6_reach, List.forall_mem_cons.mpr ⟨am_okr_X6_seen, List.forall_mem_cons.mpr ⟨am_okr_X6_forget, List.forall_mem_cons.mpr ⟨am_okr_X6_howIs, List.forall_mem_cons.mpr ⟨am_okr_X6_fits, List.forall_mem_cons.mpr ⟨am_okr_X6_downs, fun _ h => absurd h List.not_mem_nil⟩⟩⟩⟩⟩⟩⟩⟩⟩⟩⟩⟩⟩⟩⟩⟩⟩⟩⟩⟩
def am_mt7 : List AMinfo := [AM_X6_next, AM_X6_creedsNow, AM_X6_creedIn, AM_X6_yearOn, AM_X6_settle, AM_X6_again, AM_X6_part, AM_X6_climb, AM_X6_book, AM_X6_image, AM_X6_restore, AM_X6_told, AM_J6_bitCount_0f7a4, AM_L_law]
theorem am_mt7_ok : ∀ M ∈ am_mt7, (am_rows M).all (am_ok M) = true ∧ (am_okws M (am_rows M) ∧ am_okm M) := List.forall_mem_cons.mpr ⟨am_okr_X6_next, List.forall_mem_cons.mpr ⟨am_okr_X6_creedsNow, List.forall_mem_cons.mpr ⟨am_okr_X6_creedIn, List.forall_mem_cons.mpr ⟨am_okr_X6_yearOn, List.forall_mem_cons.mpr ⟨am_okr_X6_settle, List.forall_mem_cons.mpr ⟨am_okr_X6_again, List.forall_mem_cons.mpr ⟨am_okr_X6_part, List.forall_mem_cons.mpr ⟨am_okr_X6_climb, List.forall_mem_cons.mpr ⟨am_okr_X6_book, List.forall_mem_cons.mpr ⟨am_okr_X6_image, List.forall_mem_cons.mpr ⟨am_okr_X6_restore, List.forall_mem_cons.mpr ⟨am_okr_X6_told, List.forall_mem_cons.mpr ⟨am_okr_J6_bitCount_0f7a4, List.forall_mem_cons.mpr ⟨am_okr_L_law, fun _ h => absurd h List.not_mem_nil⟩⟩⟩⟩⟩⟩⟩⟩⟩⟩⟩⟩⟩⟩
theorem am_mt_ok : ∀ M ∈ am_mt, (am_rows M).all (am_ok M) = true ∧ (am_okws M (am_rows M) ∧ am_okm M) := by
  have e : am_mt = am_mt0 ++ (am_mt1 ++ (am_mt2 ++ (am_mt3 ++ (am_mt4 ++ (am_mt5 ++ (am_mt6 ++ (am_mt7))))))) := rfl
  rw [e]
  exact List.forall_mem_append.mpr ⟨am_mt0_ok, List.forall_mem_append.mpr ⟨am_mt1_ok, List.forall_mem_append.mpr ⟨am_mt2_ok, List.forall_mem_append.mpr ⟨am_mt3_ok, List.forall_mem_append.mpr ⟨am_mt4_ok, List.forall_mem_append.mpr ⟨am_mt5_ok, List.forall_mem_append.mpr ⟨am_mt6_ok, am_mt7_ok⟩⟩⟩⟩⟩⟩⟩
end
section
/-! What the small machine does, the JVM does. -/
def am_rv (ad : Nat → Nat) : Value → Value
  | .ref i => .ref (ad i)
  | v => v
theorem am_rv_cat (ad : Nat → Nat) (v : Value) : (am_rv ad v).category = v.category := by cases v <;> rfl
def am_cC (G : ClassId × ClassId) (ad : Nat → Nat) : AMc → va_E
  | .inl (t, n, f) => .inl (bif Nat.beq t 0 then G.1 else G.2, n, .inl f)
  | .inr (ci, fs) => .inr (ci, fs.map (am_rv ad))
def am_cW (G : ClassId × ClassId) (ad : Nat → Nat) (h : List AMc) : va_W := h.mapIdx (fun i c => (ad i, am_cC G ad c))
def am_sz1 : AMc → Nat
  | .inl (_, n, _) => n
  | .inr (_, fs) => fs.length
def am_sz (h : List AMc) : Nat := (h.map am_sz1).sum
theorem am_cW_get {G : ClassId × ClassId} {ad : Nat → Nat} {h : List AMc} {i : Nat} {c : AMc} (hc : h[i]? = some c) : (am_cW G ad h)[i]? = some (ad i, am_cC G ad c) := by
  unfold am_cW
  rw [List.getElem?_mapIdx, hc]
  rfl
theorem am_cW_set {G : ClassId × ClassId} {ad : Nat → Nat} {h : List AMc} {i : Nat} {c : AMc} : (am_cW G ad h).set i (ad i, am_cC G ad c) = am_cW G ad (h.set i c) := by
  apply List.ext_getElem?
  intro j
  unfold am_cW
  rw [List.getElem?_mapIdx, List.getElem?_set, List.getElem?_set, List.length_mapIdx, List.getElem?_mapIdx]
  by_cases h1 : i = j
  · subst h1
    by_cases h2 : i < h.length <;> simp [h2]
  · simp [h1]
theorem am_sz_set {h : List AMc} {i : Nat} {c c' : AMc} (hc : h[i]? = some c) (e : am_sz1 c' = am_sz1 c) : am_sz (h.set i c') = am_sz h := by
  unfold am_sz
  have : (h.set i c').map am_sz1 = h.map am_sz1 := by
    apply List.ext_getElem?
    intro j
    rw [List.getElem?_map, List.getElem?_map, List.getElem?_set]
    by_cases h1 : i = j
    · subst h1
      obtain ⟨hl, hv⟩ := List.getElem?_eq_some_iff.mp hc
      simp [hl, hv, e]
    · simp [h1]
  rw [this]
theorem am_rv_ext {n : Nat} {ad ad' : Nat → Nat} (h : ∀ i, i < n ∨ i = am_SCR → ad' i = ad i) {v : Value} (hv : am_wfv n v = true) : am_rv ad' v = am_rv ad v := by
  cases v with
  | ref i =>
    simp only [am_wfv, Bool.or_eq_true] at hv
    have : i < n ∨ i = am_SCR := hv.imp (fun z => (Nat.le_of_ble_eq_true z : i + 1 ≤ n)) (fun z => Nat.eq_of_beq_eq_true z)
    show Value.ref (ad' i) = Value.ref (ad i)
    rw [h i this]
  | _ => rfl
theorem am_cC_ext {G : ClassId × ClassId} {n : Nat} {ad ad' : Nat → Nat} (h : ∀ i, i < n ∨ i = am_SCR → ad' i = ad i) {c : AMc} (hc : am_wfc n c = true) : am_cC G ad' c = am_cC G ad c := by
  obtain ⟨t, m, f⟩ | ⟨ci, fs⟩ := c
  · rfl
  · show Sum.inr (ci, fs.map (am_rv ad')) = Sum.inr (ci, fs.map (am_rv ad))
    have : fs.map (am_rv ad') = fs.map (am_rv ad) := List.map_congr_left (fun v hv => am_rv_ext h (List.all_eq_true.mp hc v hv))
    rw [this]
theorem am_cW_ext {G : ClassId × ClassId} {ad ad' : Nat → Nat} {h : List AMc} (e : ∀ i, i < h.length ∨ i = am_SCR → ad' i = ad i) (hw : h.all (am_wfc h.length) = true) : am_cW G ad' h = am_cW G ad h := by
  apply List.ext_getElem?
  intro j
  unfold am_cW
  rw [List.getElem?_mapIdx, List.getElem?_mapIdx]
  cases hj : h[j]? with
  | none => rfl
  | some c =>
    obtain ⟨hl, -⟩ := List.getElem?_eq_some_iff.mp hj
    show some (ad' j, am_cC G ad' c) = some (ad j, am_cC G ad c)
    rw [e j (Or.inl hl), am_cC_ext e (List.all_eq_true.mp hw c (List.mem_of_getElem? hj))]
theorem am_cW_push {G : ClassId × ClassId} {ad ad' : Nat → Nat} {h : List AMc} {c : AMc} (e : ∀ i, i < h.length ∨ i = am_SCR → ad' i = ad i) (hw : h.all (am_wfc h.length) = true) : am_cW G ad' (h ++ [c]) = am_cW G ad h ++ [(ad' h.length, am_cC G ad' c)] := by
  rw [← am_cW_ext (G := G) e hw]
  unfold am_cW
  rw [List.mapIdx_append]
  simp
def am_LR (ad : Nat → Nat) (L : AMl) (nL : Nat) (ls : Array Slot) : Prop := ls.size = nL ∧ lv_wf ls ∧ ∀ (i : Nat) (v : Value), L[i]? = some (some v) → ls[i]? = some (.val (am_rv ad v))
def am_lf (ad : Nat → Nat) (L : AMl) : List (Nat × Value) := (List.range L.length).filterMap (fun i => match L[i]? with
  | some (some v) => some (i, am_rv ad v)
  | _ => none)
theorem am_lf_mem {ad : Nat → Nat} {L : AMl} {q : Nat × Value} : q ∈ am_lf ad L ↔ ∃ v, L[q.1]? = some (some v) ∧ q.2 = am_rv ad v := by
  unfold am_lf
  rw [List.mem_filterMap]
  constructor
  · intro hq
    obtain ⟨i, -, hi⟩ := hq
    split at hi
    · rename_i v hv
      cases hi
      exact ⟨v, hv, rfl⟩
    · cases hi
  · intro hq
    obtain ⟨v, h1, h2⟩ := hq
    obtain ⟨i, w⟩ := q
    refine ⟨i, List.mem_range.mpr (List.getElem?_eq_some_iff.mp h1).1, ?_⟩
    dsimp only at h1 h2
    rw [h1, h2]
theorem am_LR_has {ad : Nat → Nat} {L : AMl} {nL : Nat} {ls : Array Slot} (h : am_LR ad L nL ls) : lv_has ls nL (am_lf ad L) := ⟨h.1, h.2.1, fun q hq => by
  obtain ⟨v, h1, h2⟩ := am_lf_mem.mp hq
  rw [h2]
  exact h.2.2 q.1 v h1⟩
theorem am_LR_st1 {ad : Nat → Nat} {L : AMl} {nL i : Nat} {w : Value} {ls' : Array Slot} (hk : am_kl L i = true) (h' : lv_has ls' nL ((i, am_rv ad w) :: (am_lf ad L).filter (fun q => !(q.1 == i) && !(q.1 + 1 == i && q.2.category == 2)))) : am_LR ad (L.set i (some w)) nL ls' := by
  refine ⟨h'.1, h'.2.1, fun j v hj => ?_⟩
  by_cases hji : j = i
  · subst hji
    obtain ⟨hl, hv⟩ := List.getElem?_eq_some_iff.mp hj
    rw [List.getElem_set_self] at hv
    cases hv
    exact h'.2.2 (j, am_rv ad w) List.mem_cons_self
  · rw [List.getElem?_set_ne (Ne.symm hji)] at hj
    refine h'.2.2 (j, am_rv ad v) (List.mem_cons_of_mem _ (List.mem_filter.mpr ⟨am_lf_mem.mpr ⟨v, hj, rfl⟩, ?_⟩))
    have h1 : (j == i) = false := by simp [hji]
    by_cases hj1 : j + 1 = i
    · subst hj1
      simp only [am_kl, hj] at hk
      have h2 : (v.category == 2) = false := by simpa using hk
      simp [h1, am_rv_cat, h2]
    · simp [h1, hj1]
theorem am_LR_st2 {ad : Nat → Nat} {L : AMl} {nL i : Nat} {w : Value} {ls' : Array Slot} (hk : am_kl L i = true) (h' : lv_has ls' nL ((i, am_rv ad w) :: (am_lf ad L).filter (fun q => !(q.1 == i) && (!(q.1 == i + 1) && !(q.1 + 1 == i && q.2.category == 2))))) : am_LR ad ((L.set i (some w)).set (i + 1) none) nL ls' := by
  refine ⟨h'.1, h'.2.1, fun j v hj => ?_⟩
  by_cases hj2 : j = i + 1
  · subst hj2
    obtain ⟨hl, hv⟩ := List.getElem?_eq_some_iff.mp hj
    rw [List.getElem_set_self] at hv
    cases hv
  · rw [List.getElem?_set_ne (Ne.symm hj2)] at hj
    by_cases hji : j = i
    · subst hji
      obtain ⟨hl, hv⟩ := List.getElem?_eq_some_iff.mp hj
      rw [List.getElem_set_self] at hv
      cases hv
      exact h'.2.2 (j, am_rv ad w) List.mem_cons_self
    · rw [List.getElem?_set_ne (Ne.symm hji)] at hj
      refine h'.2.2 (j, am_rv ad v) (List.mem_cons_of_mem _ (List.mem_filter.mpr ⟨am_lf_mem.mpr ⟨v, hj, rfl⟩, ?_⟩))
      have h1 : (j == i) = false := by simp [hji]
      have h3 : (j == i + 1) = false := by simp [hj2]
      by_cases hj1 : j + 1 = i
      · subst hj1
        simp only [am_kl, hj] at hk
        have h2 : (v.category == 2) = false := by simpa using hk
        simp [h1, h3, am_rv_cat, h2]
      · simp [h1, h3, hj1]
theorem am_LR_ext {ad ad' : Nat → Nat} {L : AMl} {n nL : Nat} {ls : Array Slot} (e : ∀ i, i < n ∨ i = am_SCR → ad' i = ad i) (hw : L.all (am_wfo n) = true) (h : am_LR ad L nL ls) : am_LR ad' L nL ls := ⟨h.1, h.2.1, fun i v hv => by
  have h1 : am_wfv n v = true := List.all_eq_true.mp hw (some v) (List.mem_of_getElem? hv)
  rw [am_rv_ext e h1]
  exact h.2.2 i v hv⟩
theorem am_map_ext {ad ad' : Nat → Nat} {S : List Value} {n : Nat} (e : ∀ i, i < n ∨ i = am_SCR → ad' i = ad i) (hw : S.all (am_wfv n) = true) : S.map (am_rv ad') = S.map (am_rv ad) := List.map_congr_left (fun v hv => am_rv_ext e (List.all_eq_true.mp hw v hv))
theorem am_sl_args (ad : Nat → Nat) : ∀ (as : List Value) (k i : Nat) (v : Value), (am_sl as)[i]? = some (some v) → (k + i, am_rv ad v) ∈ lv_args k (as.map (am_rv ad))
  | [], k, i, v, h => by simp [am_sl] at h
  | w :: t, k, i, v, h => by
    by_cases hc : w.category = 2
    · have h2 : am_sl (w :: t) = some w :: none :: am_sl t := by simp [am_sl, hc]
      rw [h2] at h
      show _ ∈ (k, am_rv ad w) :: lv_args (if (am_rv ad w).category = 2 then k + 2 else k + 1) (t.map (am_rv ad))
      rw [am_rv_cat, if_pos hc]
      match i, h with
      | 0, h => cases h; exact List.mem_cons_self
      | 1, h => cases h
      | i + 2, h =>
        have := am_sl_args ad t (k + 2) i v h
        rw [show k + 2 + i = k + (i + 2) by omega] at this
        exact List.mem_cons_of_mem _ this
    · have h2 : am_sl (w :: t) = some w :: am_sl t := by
        have : Nat.beq w.category 2 = false := by
          cases h3 : Nat.beq w.category 2 with
          | false => rfl
          | true => exact absurd (Nat.eq_of_beq_eq_true h3) hc
        simp [am_sl, this]
      rw [h2] at h
      show _ ∈ (k, am_rv ad w) :: lv_args (if (am_rv ad w).category = 2 then k + 2 else k + 1) (t.map (am_rv ad))
      rw [am_rv_cat, if_neg hc]
      match i, h with
      | 0, h => cases h; exact List.mem_cons_self
      | i + 1, h =>
        have := am_sl_args ad t (k + 1) i v h
        rw [show k + 1 + i = k + (i + 1) by omega] at this
        exact List.mem_cons_of_mem _ this
theorem am_sl_len (ad : Nat → Nat) : ∀ as : List Value, (lg_sl (as.map (am_rv ad))).length = (am_sl as).length
  | [] => rfl
  | w :: t => by
    have ih := am_sl_len ad t
    by_cases hc : w.category = 2
    · simp [lg_sl, am_sl, am_rv_cat, hc] at ih ⊢; omega
    · have h3 : Nat.beq w.category 2 = false := by
        cases h3 : Nat.beq w.category 2 with
        | false => rfl
        | true => exact absurd (Nat.eq_of_beq_eq_true h3) hc
      simp [lg_sl, am_sl, am_rv_cat, hc, h3] at ih ⊢; omega
theorem am_LR_ent {ad : Nat → Nat} {M : AMinfo} {as : List Value} (hn : (am_sl as).length ≤ am_nL M) : am_LR ad (am_ent M as) (am_nL M) ((lg_sl (as.map (am_rv ad)) ++ List.replicate (am_nL M - (lg_sl (as.map (am_rv ad))).length) Slot.unset).toArray) := by
  have h := lv_entry (as.map (am_rv ad)) (n := am_nL M) (by rw [am_sl_len]; exact hn)
  refine ⟨h.1, h.2.1, fun i v hv => ?_⟩
  unfold am_ent at hv
  by_cases hi : i < (am_sl as).length
  · rw [List.getElem?_append_left hi] at hv
    have := am_sl_args ad as 0 i v hv
    rw [Nat.zero_add] at this
    exact h.2.2 _ this
  · rw [List.getElem?_append_right (by omega)] at hv
    have := List.eq_of_mem_replicate (List.mem_of_getElem? hv)
    cases this
theorem am_fnd_mem : ∀ {l : List AMrow} {n : Nat} {d : AMrd}, am_fnd l n = some d → (n, d) ∈ l
  | [], n, d, h => by cases h
  | r :: t, n, d, h => by
    unfold am_fnd at h
    cases hb : Nat.beq r.1 n with
    | true =>
      rw [hb] at h
      have h1 : r.2 = d := Option.some.inj h
      have h2 := Nat.eq_of_beq_eq_true hb
      subst h1; subst h2
      exact List.mem_cons_self
    | false =>
      rw [hb] at h
      exact List.mem_cons_of_mem _ (am_fnd_mem h)
theorem am_sw_at : ∀ (tab : List (Int32 × Nat)) (lo : Int) (x : Int32) (d : Nat), (∀ (i : Nat) (q : Int32 × Nat), tab[i]? = some q → q.1.toInt = lo + i) → ((x.toInt < lo ∨ lo + tab.length ≤ x.toInt) → am_sw tab x d = d) ∧ (∀ (j : Nat) (q : Int32 × Nat), tab[j]? = some q → x.toInt = lo + j → am_sw tab x d = q.2)
  | [], lo, x, d, _ => ⟨fun _ => rfl, fun j q h => by cases h⟩
  | q0 :: t, lo, x, d, h => by
    have h0 : q0.1.toInt = lo := by have := h 0 q0 rfl; simpa using this
    have ih := am_sw_at t (lo + 1) x d (fun i q hq => by have := h (i + 1) q hq; push_cast at this; omega)
    refine ⟨fun hx => ?_, fun j q hj hx => ?_⟩
    · show (if x = q0.1 then q0.2 else am_sw t x d) = d
      rw [if_neg (fun z => by rw [z, h0] at hx; simp at hx; omega)]
      exact ih.1 (by simp at hx; omega)
    · show (if x = q0.1 then q0.2 else am_sw t x d) = q.2
      match j, hj with
      | 0, hj => cases hj; rw [if_pos (Int32.toInt_inj.mp (by rw [h0]; simpa using hx))]
      | j + 1, hj =>
        rw [if_neg (fun z => by rw [z, h0] at hx; push_cast at hx; omega)]
        exact ih.2 j q hj (by push_cast at hx; omega)
theorem am_okf_n {ty : FieldType} {w : Value} {ad : Nat → Nat} (h : am_okf ty w = true) : narrow ty (am_rv ad w) = am_rv ad w ∧ fits ty (am_rv ad w) = true := by
  cases ty <;> cases w <;> first | (cases h; done) | exact ⟨rfl, rfl⟩
theorem am_rv_def (ad : Nat → Nat) (t : FieldType) : am_rv ad (defaultValue t) = defaultValue t := by cases t <;> rfl
theorem am_df_map (ad : Nat → Nat) (c : Nat) : (am_df c).map (am_rv ad) = am_df c := by
  unfold am_df
  rw [List.map_map]
  exact List.map_congr_left (fun k _ => am_rv_def ad _)
def am_NW (s : State) : Prop := ∀ (own : String) (idx : Nat) (x : MethodName) (host : String), Cond.methodLinkNest own idx x host ∈ lw_tbl → va_Nw (.methodLinkNest own idx x host) s
def am_Cx (M : AMinfo) (p : Program) (R : Room) (s : State) (m : MethodId) (args : Array Value) (meth : Method) (c : Code) (A : Nat → Prop) (G : ClassId × ClassId) (D : va_G) : Prop :=
  M ∈ am_mt ∧ p.tables.exec = Jvm.exec ∧ c.code = am_by M ∧ c.maxLocals = am_nL M ∧ meth.sig.returnType = am_rt M ∧ meth.locks = false ∧ s.vm.findClass (am_R (am_cls M)) = some m.cls ∧ (∀ w ∈ am_TB, w.before args s = true) ∧ ((am_y M).name = "<init>" → meth.name = "<init>") ∧ (∀ q, s.heap.size ≤ q → A q) ∧ va_K D vwCl [(G.1, .int), (G.2, .boolean)] s ∧ am_NW s ∧ am_fr M ≤ R.frames ∧ am_lo M ≤ R.locals
end
section
section AmSnd
variable {p : Program} {l : Launch} {e : Env} {R : Room} {s : State} {m : MethodId} {args : Array Value} {below : List Frame} {meth : Method} {c : Code} {Q : State → Prop}
set_option maxRecDepth 100000 in
set_option maxHeartbeats 40000000 in
theorem am_snd {X : AMx} {M : AMinfo} {G : ClassId × ClassId} {D : va_G} {A : Nat → Prop} (C : am_Cx M p R s m args meth c A G D) {pc : Nat} {L : AMl} {S : List Value} {h : List AMc} {st : AMst} (hst : am_stp X M pc L S h = some st) {ad : Nat → Nat} {ls : Array Slot} {H : Heap} {locs : List Loc} {cells slots : Nat} (hP : va_P D vwCl (am_cW G ad h) H) (hD : va_D A (am_cW G ad h)) (hS : va_S A s.heap H locs) (hL : am_LR ad L (am_nL M) ls)
    (hX : am_lw M = true → va_X (ad am_SCR) X.1 X.2 s s.heap ∧ ad am_SCR < s.heap.size ∧ ¬ A (ad am_SCR)) (hc : cells + (st.2.2.2.length - h.length) ≤ R.cells) (hs : slots + (am_sz st.2.2.2 - am_sz h) ≤ R.slots)
    (kk : ∀ (H1 : Heap) (locs1 : List Loc) (ls1 : Array Slot) (ad1 : Nat → Nat) (c1 s1 : Nat), c1 + h.length = cells + st.2.2.2.length → s1 + am_sz h = slots + am_sz st.2.2.2 → va_P D vwCl (am_cW G ad1 st.2.2.2) H1 → va_D A (am_cW G ad1 st.2.2.2) → va_S A s.heap H1 locs1 → am_LR ad1 st.2.1 (am_nL M) ls1 → (∀ i, i < h.length ∨ st.2.2.2.length ≤ i → ad1 i = ad i) → (h.length = st.2.2.2.length ∨ st.2.2.2.length ≤ am_SCR) → h.length ≤ st.2.2.2.length → am_sz h ≤ am_sz st.2.2.2 →
      W p l e R s m args below meth c H1 locs1 c1 s1 Q (F0 m st.1 ls1 (st.2.2.1.map (am_rv ad1)))) :
    W p l e R s m args below meth c H locs cells slots Q (F0 m pc ls (S.map (am_rv ad))) := by
  obtain ⟨hM, hx, hb, hml, hr, hlk, hown, hts, hin, hA, hK, hN, hfr, hlo⟩ := C
  have hce : cells ≤ R.cells := by omega
  have hse : slots ≤ R.slots := by omega
  have k0 : ∀ (pc' : Nat) (L' : AMl) (S' : List Value) (ls' : Array Slot), st = (pc', L', S', h) → am_LR ad L' (am_nL M) ls' → W p l e R s m args below meth c H locs cells slots Q (F0 m pc' ls' (S'.map (am_rv ad))) := by
    intro pc' L' S' ls' e1 hL'
    subst e1
    exact kk H locs ls' ad cells slots rfl rfl hP hD hS hL' (fun _ _ => rfl) (Or.inl rfl) (Nat.le_refl _) (Nat.le_refl _)
  have k1 : ∀ (pc' : Nat) (S' : List Value) (o : Nat) (c0 c' : AMc) (H1 : Heap) (locs1 : List Loc), h[o]? = some c0 → am_sz1 c' = am_sz1 c0 → st = (pc', L, S', h.set o c') → va_P D vwCl ((am_cW G ad h).set o (ad o, am_cC G ad c')) H1 → va_D A ((am_cW G ad h).set o (ad o, am_cC G ad c')) → va_S A s.heap H1 locs1 → W p l e R s m args below meth c H1 locs1 cells slots Q (F0 m pc' ls (S'.map (am_rv ad))) := by
    intro pc' S' o c0 c' H1 locs1 ho hz e1 hP1 hD1 hS1
    subst e1
    rw [am_cW_set] at hP1 hD1
    have e2 : (h.set o c').length = h.length := List.length_set
    have e3 : am_sz (h.set o c') = am_sz h := am_sz_set ho hz
    exact kk H1 locs1 ls ad cells slots (by dsimp only; rw [e2]) (by dsimp only; rw [e3]) hP1 hD1 hS1 hL (fun _ _ => rfl) (Or.inl e2.symm) (by dsimp only; rw [e2]; exact Nat.le_refl _) (by dsimp only; rw [e3]; exact Nat.le_refl _)
  unfold am_stp at hst
  cases hf : am_fnd (am_rows M) pc with
  | none => rw [hf] at hst; cases hst
  | some rd =>
    rw [hf] at hst
    have hm := am_fnd_mem hf
    have hok := List.all_eq_true.mp (am_mt_ok M hM).1 _ hm
    have how := am_okws_mem (am_mt_ok M hM).2.1 _ hm
    obtain ⟨ins, len, a, b, v, tab, t⟩ := rd
    dsimp only at hst
    unfold am_okw am_word at how
    dsimp only at how
    simp only [am_ok, Bool.and_eq_true, decide_eq_true_eq] at hok
    obtain ⟨hdg, hok⟩ := hok
    cases ins with
    | iconst n =>
      simp only [Bool.and_eq_true, decide_eq_true_eq] at hok hst
      obtain ⟨rfl, hl⟩ := hok
      obtain rfl := Nat.eq_of_beq_eq_true hl
      exact lv_iconst hx hb hdg rfl (k0 _ _ _ _ (Option.some.inj hst).symm hL)
    | bipush n =>
      simp only [Bool.and_eq_true, decide_eq_true_eq] at hok hst
      obtain ⟨rfl, hl⟩ := hok
      obtain rfl := Nat.eq_of_beq_eq_true hl
      exact lv_bipush hx hb hdg rfl (k0 _ _ _ _ (Option.some.inj hst).symm hL)
    | sipush n =>
      simp only [Bool.and_eq_true, decide_eq_true_eq] at hok hst
      obtain ⟨rfl, hl⟩ := hok
      obtain rfl := Nat.eq_of_beq_eq_true hl
      exact lv_sipush hx hb hdg rfl (k0 _ _ _ _ (Option.some.inj hst).symm hL)
    | lconst n =>
      simp only [Bool.and_eq_true, decide_eq_true_eq] at hok hst
      obtain ⟨rfl, hl⟩ := hok
      obtain rfl := Nat.eq_of_beq_eq_true hl
      exact lv_lconst hx hb hdg rfl (k0 _ _ _ _ (Option.some.inj hst).symm hL)
    | ldc n =>
      cases v with
      | int x =>
        simp only [Bool.and_eq_true] at hok hst
        obtain rfl := Nat.eq_of_beq_eq_true hok.2
        exact lv_ldc hx hb hown (hts _ (am_TB_of t how rfl)) hdg (k0 _ _ _ _ (Option.some.inj hst).symm hL)
      | _ => simp at hok
    | ldc_w n =>
      cases v with
      | int x =>
        simp only [Bool.and_eq_true] at hok hst
        obtain rfl := Nat.eq_of_beq_eq_true hok.2
        exact lv_ldcw hx hb hown (hts _ (am_TB_of t how rfl)) hdg (k0 _ _ _ _ (Option.some.inj hst).symm hL)
      | _ => simp at hok
    | ldc2_w n =>
      cases v with
      | long x =>
        simp only [Bool.and_eq_true] at hok hst
        obtain rfl := Nat.eq_of_beq_eq_true hok.2
        exact lv_ldc2 hx hb hown (hts _ (am_TB_of t how rfl)) hdg (k0 _ _ _ _ (Option.some.inj hst).symm hL)
      | _ => simp at hok
    | iload i =>
      simp only [Bool.and_eq_true] at hok hst
      obtain rfl := Nat.eq_of_beq_eq_true hok.1
      obtain rfl := Nat.eq_of_beq_eq_true hok.2
      split at hst
      · rename_i x hv
        exact lv_iload hx hb hdg (hL.2.2 _ _ hv) (k0 _ _ _ _ (Option.some.inj hst).symm hL)
      · cases hst
    | lload i =>
      simp only [Bool.and_eq_true] at hok hst
      obtain rfl := Nat.eq_of_beq_eq_true hok.1
      obtain rfl := Nat.eq_of_beq_eq_true hok.2
      split at hst
      · rename_i x hv
        exact lv_lload hx hb hdg (hL.2.2 _ _ hv) (k0 _ _ _ _ (Option.some.inj hst).symm hL)
      · cases hst
    | iload_n i =>
      simp only [Bool.and_eq_true] at hok hst
      obtain rfl := Nat.eq_of_beq_eq_true hok.1
      obtain rfl := Nat.eq_of_beq_eq_true hok.2
      split at hst
      · rename_i x hv
        exact lv_iload_n hx hb hdg rfl (hL.2.2 _ _ hv) (k0 _ _ _ _ (Option.some.inj hst).symm hL)
      · cases hst
    | lload_n i =>
      simp only [Bool.and_eq_true] at hok hst
      obtain rfl := Nat.eq_of_beq_eq_true hok.1
      obtain rfl := Nat.eq_of_beq_eq_true hok.2
      split at hst
      · rename_i x hv
        exact lv_lload_n hx hb hdg rfl (hL.2.2 _ _ hv) (k0 _ _ _ _ (Option.some.inj hst).symm hL)
      · cases hst
    | aload_n i =>
      simp only [Bool.and_eq_true] at hok hst
      obtain rfl := Nat.eq_of_beq_eq_true hok.1
      obtain rfl := Nat.eq_of_beq_eq_true hok.2
      split at hst
      · rename_i x hv
        exact lv_aload_n hx hb hdg rfl (hL.2.2 _ _ hv) (k0 _ _ _ _ (Option.some.inj hst).symm hL)
      · cases hst
    | istore i =>
      simp only [Bool.and_eq_true] at hok hst
      obtain rfl := Nat.eq_of_beq_eq_true hok.1
      obtain rfl := Nat.eq_of_beq_eq_true hok.2.2
      have hlt : a < am_nL M := Nat.le_of_ble_eq_true hok.2.1
      split at hst
      · rename_i x r
        cases hkl : am_kl L a with
        | false => rw [hkl] at hst; cases hst
        | true =>
          rw [hkl] at hst
          exact lv_istore hx hb hdg (am_LR_has hL) hlt rfl (fun ls' h' => k0 _ _ _ _ (Option.some.inj hst).symm (am_LR_st1 (w := .int x) hkl h'))
      · cases hst
    | istore_n i =>
      simp only [Bool.and_eq_true] at hok hst
      obtain rfl := Nat.eq_of_beq_eq_true hok.1
      obtain rfl := Nat.eq_of_beq_eq_true hok.2.2
      have hlt : (i : Nat) < am_nL M := Nat.le_of_ble_eq_true hok.2.1
      split at hst
      · rename_i x r
        cases hkl : am_kl L (i : Nat) with
        | false => rw [hkl] at hst; cases hst
        | true =>
          rw [hkl] at hst
          exact lv_istore_n hx hb hdg rfl (am_LR_has hL) hlt rfl (fun ls' h' => k0 _ _ _ _ (Option.some.inj hst).symm (am_LR_st1 (w := .int x) hkl h'))
      · cases hst
    | astore_n i =>
      simp only [Bool.and_eq_true] at hok hst
      obtain rfl := Nat.eq_of_beq_eq_true hok.1
      obtain rfl := Nat.eq_of_beq_eq_true hok.2.2
      have hlt : (i : Nat) < am_nL M := Nat.le_of_ble_eq_true hok.2.1
      split at hst
      · rename_i x r
        cases hkl : am_kl L (i : Nat) with
        | false => rw [hkl] at hst; cases hst
        | true =>
          rw [hkl] at hst
          exact lv_astore_n hx hb hdg rfl (am_LR_has hL) hlt rfl (fun ls' h' => k0 _ _ _ _ (Option.some.inj hst).symm (am_LR_st1 (w := .ref x) hkl h'))
      · cases hst
    | lstore i =>
      simp only [Bool.and_eq_true] at hok hst
      obtain rfl := Nat.eq_of_beq_eq_true hok.1
      obtain rfl := Nat.eq_of_beq_eq_true hok.2.2
      have hlt : a + 1 < am_nL M := Nat.le_of_ble_eq_true hok.2.1
      split at hst
      · rename_i x r
        cases hkl : am_kl L a with
        | false => rw [hkl] at hst; cases hst
        | true =>
          rw [hkl] at hst
          exact lv_lstore hx hb hdg (am_LR_has hL) hlt rfl (fun ls' h' => k0 _ _ _ _ (Option.some.inj hst).symm (am_LR_st2 (w := .long x) hkl h'))
      · cases hst
    | iinc i n =>
      simp only [Bool.and_eq_true, decide_eq_true_eq] at hok hst
      obtain ⟨h1, h2, rfl, h4⟩ := hok
      obtain rfl := Nat.eq_of_beq_eq_true h1
      obtain rfl := Nat.eq_of_beq_eq_true h4
      have hlt : a < am_nL M := Nat.le_of_ble_eq_true h2
      split at hst
      · rename_i x hv
        cases hkl : am_kl L a with
        | false => rw [hkl] at hst; cases hst
        | true =>
          rw [hkl] at hst
          obtain ⟨k, hk⟩ := List.getElem?_of_mem (am_lf_mem (ad := ad) (q := (a, .int x)).mpr ⟨_, hv, rfl⟩)
          exact lv_iinc hx hb hdg (am_LR_has hL) hk rfl hlt rfl (fun ls' h' => k0 _ _ _ _ (Option.some.inj hst).symm (am_LR_st1 (w := .int (x + Int32.ofInt n)) hkl h'))
      · cases hst
    | iadd =>
      simp only at hst
      obtain rfl := Nat.eq_of_beq_eq_true hok
      split at hst
      · exact lv_iadd hx hb hdg (k0 _ _ _ _ (Option.some.inj hst).symm hL)
      · cases hst
    | isub =>
      simp only at hst
      obtain rfl := Nat.eq_of_beq_eq_true hok
      split at hst
      · exact lv_isub hx hb hdg (k0 _ _ _ _ (Option.some.inj hst).symm hL)
      · cases hst
    | imul =>
      simp only at hst
      obtain rfl := Nat.eq_of_beq_eq_true hok
      split at hst
      · exact lv_imul hx hb hdg (k0 _ _ _ _ (Option.some.inj hst).symm hL)
      · cases hst
    | iand =>
      simp only at hst
      obtain rfl := Nat.eq_of_beq_eq_true hok
      split at hst
      · exact lv_iand hx hb hdg (k0 _ _ _ _ (Option.some.inj hst).symm hL)
      · cases hst
    | ior =>
      simp only at hst
      obtain rfl := Nat.eq_of_beq_eq_true hok
      split at hst
      · exact lv_ior hx hb hdg (k0 _ _ _ _ (Option.some.inj hst).symm hL)
      · cases hst
    | ixor =>
      simp only at hst
      obtain rfl := Nat.eq_of_beq_eq_true hok
      split at hst
      · exact lv_ixor hx hb hdg (k0 _ _ _ _ (Option.some.inj hst).symm hL)
      · cases hst
    | ishl =>
      simp only at hst
      obtain rfl := Nat.eq_of_beq_eq_true hok
      split at hst
      · exact lv_ishl hx hb hdg (k0 _ _ _ _ (Option.some.inj hst).symm hL)
      · cases hst
    | ishr =>
      simp only at hst
      obtain rfl := Nat.eq_of_beq_eq_true hok
      split at hst
      · exact lv_ishr hx hb hdg (k0 _ _ _ _ (Option.some.inj hst).symm hL)
      · cases hst
    | lmul =>
      simp only at hst
      obtain rfl := Nat.eq_of_beq_eq_true hok
      split at hst
      · exact lv_lmul hx hb hdg (k0 _ _ _ _ (Option.some.inj hst).symm hL)
      · cases hst
    | idiv =>
      simp only at hst
      obtain rfl := Nat.eq_of_beq_eq_true hok
      split at hst
      · rename_i y x r
        by_cases hy : y = 0
        · rw [if_pos hy] at hst; cases hst
        · rw [if_neg hy] at hst
          exact lv_idiv hx hb hdg hy (k0 _ _ _ _ (Option.some.inj hst).symm hL)
      · cases hst
    | irem =>
      simp only at hst
      obtain rfl := Nat.eq_of_beq_eq_true hok
      split at hst
      · rename_i y x r
        by_cases hy : y = 0
        · rw [if_pos hy] at hst; cases hst
        · rw [if_neg hy] at hst
          exact lv_irem hx hb hdg hy (k0 _ _ _ _ (Option.some.inj hst).symm hL)
      · cases hst
    | ldiv =>
      simp only at hst
      obtain rfl := Nat.eq_of_beq_eq_true hok
      split at hst
      · rename_i y x r
        by_cases hy : y = 0
        · rw [if_pos hy] at hst; cases hst
        · rw [if_neg hy] at hst
          exact lv_ldiv hx hb hdg hy (k0 _ _ _ _ (Option.some.inj hst).symm hL)
      · cases hst
    | lrem =>
      simp only at hst
      obtain rfl := Nat.eq_of_beq_eq_true hok
      split at hst
      · rename_i y x r
        by_cases hy : y = 0
        · rw [if_pos hy] at hst; cases hst
        · rw [if_neg hy] at hst
          exact lv_lrem hx hb hdg hy (k0 _ _ _ _ (Option.some.inj hst).symm hL)
      · cases hst
    | iushr =>
      simp only at hst
      obtain rfl := Nat.eq_of_beq_eq_true hok
      split at hst
      · exact lv_iushr hx hb hdg rfl (k0 _ _ _ _ (Option.some.inj hst).symm hL)
      · cases hst
    | ineg =>
      simp only at hst
      obtain rfl := Nat.eq_of_beq_eq_true hok
      split at hst
      · exact lv_ineg hx hb hdg (k0 _ _ _ _ (Option.some.inj hst).symm hL)
      · cases hst
    | i2l =>
      simp only at hst
      obtain rfl := Nat.eq_of_beq_eq_true hok
      split at hst
      · exact lv_i2l hx hb hdg rfl (k0 _ _ _ _ (Option.some.inj hst).symm hL)
      · cases hst
    | lcmp =>
      simp only at hst
      obtain rfl := Nat.eq_of_beq_eq_true hok
      split at hst
      · exact W.lcmp hx hb hdg (k0 _ _ _ _ (Option.some.inj hst).symm hL)
      · cases hst
    | dup =>
      simp only at hst
      obtain rfl := Nat.eq_of_beq_eq_true hok
      split at hst
      · rename_i w r
        cases hcw : Nat.beq w.category 1 with
        | false => rw [hcw] at hst; cases hst
        | true =>
          rw [hcw] at hst
          exact lv_dup hx hb hdg (by rw [am_rv_cat]; exact Nat.eq_of_beq_eq_true hcw) (k0 _ _ _ _ (Option.some.inj hst).symm hL)
      · cases hst
    | pop =>
      simp only at hst
      obtain rfl := Nat.eq_of_beq_eq_true hok
      split at hst
      · rename_i w r
        cases hcw : Nat.beq w.category 1 with
        | false => rw [hcw] at hst; cases hst
        | true =>
          rw [hcw] at hst
          exact lv_pop hx hb hdg (by rw [am_rv_cat]; exact Nat.eq_of_beq_eq_true hcw) (k0 _ _ _ _ (Option.some.inj hst).symm hL)
      · cases hst
    | dup2 =>
      simp only at hst
      obtain rfl := Nat.eq_of_beq_eq_true hok
      split at hst
      · rename_i w u r
        cases hcw : Nat.beq w.category 1 with
        | false => rw [hcw] at hst; cases hst
        | true =>
          rw [hcw] at hst
          cases hcu : Nat.beq u.category 1 with
          | false => rw [hcu] at hst; cases hst
          | true =>
            rw [hcu] at hst
            exact lv_dup2_11 hx hb hdg (by rw [am_rv_cat]; exact Nat.eq_of_beq_eq_true hcw) (by rw [am_rv_cat]; exact Nat.eq_of_beq_eq_true hcu) (k0 _ _ _ _ (Option.some.inj hst).symm hL)
      · cases hst
    | goto off =>
      simp only [Bool.and_eq_true, decide_eq_true_eq] at hok hst
      obtain rfl := Nat.eq_of_beq_eq_true hok.2
      exact lv_goto hx hb hdg hok.1 (k0 _ _ _ _ (Option.some.inj hst).symm hL)
    | ifCond cnd off =>
      simp only [Bool.and_eq_true, decide_eq_true_eq] at hok hst
      obtain rfl := Nat.eq_of_beq_eq_true hok.2
      split at hst
      · rename_i x r
        cases cnd with
        | eq => exact lv_if_eq hx hb hdg hok.1 (fun hcnd => by
            have := k0 _ _ r ls (Option.some.inj hst).symm hL
            rw [if_pos hcnd] at this
            exact this) (fun hcnd => by
            have := k0 _ _ r ls (Option.some.inj hst).symm hL
            rw [if_neg hcnd] at this
            exact this)
        | ne => exact lv_if_ne hx hb hdg hok.1 (fun hcnd => by
            have := k0 _ _ r ls (Option.some.inj hst).symm hL
            rw [if_neg hcnd] at this
            exact this) (fun hcnd => by
            have := k0 _ _ r ls (Option.some.inj hst).symm hL
            rw [if_pos hcnd] at this
            exact this)
        | lt => exact lv_if_lt hx hb hdg hok.1 (fun hcnd => by
            have := k0 _ _ r ls (Option.some.inj hst).symm hL
            rw [if_pos hcnd] at this
            exact this) (fun hcnd => by
            have := k0 _ _ r ls (Option.some.inj hst).symm hL
            rw [if_neg hcnd] at this
            exact this)
        | ge => exact lv_if_ge hx hb hdg hok.1 (fun hcnd => by
            have := k0 _ _ r ls (Option.some.inj hst).symm hL
            rw [if_pos hcnd] at this
            exact this) (fun hcnd => by
            have := k0 _ _ r ls (Option.some.inj hst).symm hL
            rw [if_neg hcnd] at this
            exact this)
        | gt => exact lv_if_gt hx hb hdg hok.1 (fun hcnd => by
            have := k0 _ _ r ls (Option.some.inj hst).symm hL
            rw [if_pos hcnd] at this
            exact this) (fun hcnd => by
            have := k0 _ _ r ls (Option.some.inj hst).symm hL
            rw [if_neg hcnd] at this
            exact this)
        | le => exact lv_if_le hx hb hdg hok.1 (fun hcnd => by
            have := k0 _ _ r ls (Option.some.inj hst).symm hL
            rw [if_pos hcnd] at this
            exact this) (fun hcnd => by
            have := k0 _ _ r ls (Option.some.inj hst).symm hL
            rw [if_neg hcnd] at this
            exact this)
      · cases hst
    | if_icmp cnd off =>
      simp only [Bool.and_eq_true, decide_eq_true_eq] at hok hst
      obtain rfl := Nat.eq_of_beq_eq_true hok.2
      split at hst
      · rename_i y x r
        cases cnd with
        | eq => exact lv_icmp_eq hx hb hdg hok.1 (fun hcnd => by
            have := k0 _ _ r ls (Option.some.inj hst).symm hL
            rw [if_pos hcnd] at this
            exact this) (fun hcnd => by
            have := k0 _ _ r ls (Option.some.inj hst).symm hL
            rw [if_neg hcnd] at this
            exact this)
        | ne => exact lv_icmp_ne hx hb hdg hok.1 (fun hcnd => by
            have := k0 _ _ r ls (Option.some.inj hst).symm hL
            rw [if_neg hcnd] at this
            exact this) (fun hcnd => by
            have := k0 _ _ r ls (Option.some.inj hst).symm hL
            rw [if_pos hcnd] at this
            exact this)
        | lt => exact lv_icmp_lt hx hb hdg hok.1 (fun hcnd => by
            have := k0 _ _ r ls (Option.some.inj hst).symm hL
            rw [if_pos hcnd] at this
            exact this) (fun hcnd => by
            have := k0 _ _ r ls (Option.some.inj hst).symm hL
            rw [if_neg hcnd] at this
            exact this)
        | ge => exact lv_icmp_ge hx hb hdg hok.1 (fun hcnd => by
            have := k0 _ _ r ls (Option.some.inj hst).symm hL
            rw [if_pos hcnd] at this
            exact this) (fun hcnd => by
            have := k0 _ _ r ls (Option.some.inj hst).symm hL
            rw [if_neg hcnd] at this
            exact this)
        | gt => exact lv_icmp_gt hx hb hdg hok.1 (fun hcnd => by
            have := k0 _ _ r ls (Option.some.inj hst).symm hL
            rw [if_pos hcnd] at this
            exact this) (fun hcnd => by
            have := k0 _ _ r ls (Option.some.inj hst).symm hL
            rw [if_neg hcnd] at this
            exact this)
        | le => exact lv_icmp_le hx hb hdg hok.1 (fun hcnd => by
            have := k0 _ _ r ls (Option.some.inj hst).symm hL
            rw [if_pos hcnd] at this
            exact this) (fun hcnd => by
            have := k0 _ _ r ls (Option.some.inj hst).symm hL
            rw [if_neg hcnd] at this
            exact this)
      · cases hst
    | tableswitch d lo hi offs =>
      simp only [Bool.and_eq_true, decide_eq_true_eq] at hok hst
      obtain ⟨h1, h2, h3⟩ := hok
      split at hst
      · rename_i x r
        have h4 : ∀ (i : Nat) (q : Int32 × Nat), tab[i]? = some q → q.1.toInt = lo + i ∧ ∃ o, offs[i]? = some o ∧ (pc : Int) + o = (q.2 : Int) := by
          intro i q hq
          have hi2 := (List.getElem?_eq_some_iff.mp hq).1
          have h5 := List.all_eq_true.mp h3 i (List.mem_range.mpr hi2)
          simp only [hq] at h5
          cases ho : offs[i]? with
          | none => simp only [ho] at h5; cases h5
          | some o =>
            simp only [ho, Bool.and_eq_true, decide_eq_true_eq] at h5
            exact ⟨h5.1, o, rfl, h5.2⟩
        have h6 := am_sw_at tab lo x b (fun i q hq => (h4 i q hq).1)
        by_cases hin2 : x.toInt < lo ∨ hi < x.toInt
        · have h7 := h6.1 (by omega)
          have := k0 _ _ r ls (Option.some.inj hst).symm hL
          rw [h7] at this
          exact lv_tableOut hx hb hdg hin2 h1 this
        · have hj : (x.toInt - lo).toNat < tab.length := by omega
          obtain ⟨e1, o, e2, e3⟩ := h4 (x.toInt - lo).toNat _ (List.getElem?_eq_getElem hj)
          have h7 := h6.2 (x.toInt - lo).toNat _ (List.getElem?_eq_getElem hj) (by omega)
          have := k0 _ _ r ls (Option.some.inj hst).symm hL
          rw [h7] at this
          exact lv_tableIn hx hb hdg (by omega) (by omega) e2 e3 this
      · cases hst
    | getfield idx =>
      simp only [Bool.and_eq_true] at hok hst
      obtain ⟨h1, h2, h3⟩ := hok
      obtain rfl := Nat.eq_of_beq_eq_true h3
      have ha : a < 7 := Nat.le_of_ble_eq_true h1
      have hb2 : b < am_N a := Nat.le_of_ble_eq_true h2
      split at hst
      · rename_i o r
        split at hst
        · rename_i ci fs ho
          cases hci : Nat.beq ci a with
          | false => rw [hci] at hst; cases hst
          | true =>
            rw [hci] at hst
            obtain rfl := Nat.eq_of_beq_eq_true hci
            simp only [cond_true] at hst
            split at hst
            · rename_i w hw
              exact va_get (D := D) hx hb hts (am_cl_in ci ha) hown hK hP o (am_cW_get ho) (am_cl_at ci ha) b hb2 (hts _ (am_TB_of t how rfl)) (fun _ h9 => h9) (v := am_rv ad w) (by rw [List.getElem?_map, hw]; rfl) hdg (k0 _ _ _ _ (Option.some.inj hst).symm hL)
            · cases hst
        · cases hst
      · cases hst
    | putfield idx =>
      simp only [Bool.and_eq_true] at hok hst
      obtain ⟨h1, h2, h3, h4⟩ := hok
      obtain rfl := Nat.eq_of_beq_eq_true h3
      have ha : a < 7 := Nat.le_of_ble_eq_true h1
      have hb2 : b < am_N a := Nat.le_of_ble_eq_true h2
      split at hst
      · rename_i w o r
        split at hst
        · rename_i ci fs ho
          cases hco : Nat.beq ci a && (Nat.blt b fs.length && am_okf (am_ty a b) w) with
          | false => rw [hco] at hst; cases hst
          | true =>
            rw [hco] at hst
            simp only [Bool.and_eq_true] at hco
            obtain ⟨c1, c2, c3⟩ := hco
            obtain rfl := Nat.eq_of_beq_eq_true c1
            have hlf : b < fs.length := Nat.le_of_ble_eq_true c2
            obtain ⟨n1, n2⟩ := am_okf_n (ad := ad) c3
            have hst2 := (Option.some.inj hst).symm
            have hset : (fs.map (am_rv ad)).set b (am_rv ad w) = (fs.set b w).map (am_rv ad) := List.map_set.symm
            cases hfi : (am_T ci b).2.2.2 with
            | false =>
              refine va_put (D := D) hx hb hts (am_cl_in ci ha) (am_ty ci) (am_cl_ty ci ha) (am_cl_nm ci ha) hown hK hP hD hS o (am_cW_get ho) (am_cl_at ci ha) b hb2 (hts _ (am_TB_of t how rfl)) (fun _ h9 => h9) hfi (am_cl_ty ci ha b hb2) n1 n2 (by rw [List.length_map]; exact hlf) hdg (fun H1 locs1 hP1 hD1 hS1 => ?_)
              rw [hset] at hP1 hD1
              exact k1 _ _ o _ (.inr (ci, fs.set b w)) H1 locs1 ho (by show (fs.set b w).length = fs.length; exact List.length_set) hst2 hP1 hD1 hS1
            | true =>
              rw [hfi] at h4
              simp only [Bool.not_true, Bool.false_or, Bool.and_eq_true, decide_eq_true_eq] at h4
              refine va_putF (D := D) hx hb hts (am_cl_in ci ha) (am_ty ci) (am_cl_ty ci ha) (am_cl_nm ci ha) hown hK hP hD hS o (am_cW_get ho) (am_cl_at ci ha) b hb2 (hts _ (am_TB_of t how rfl)) (fun _ h9 => h9) hfi (hin h4.1) h4.2 (am_cl_ty ci ha b hb2) n1 n2 (by rw [List.length_map]; exact hlf) hdg (fun H1 locs1 hP1 hD1 hS1 => ?_)
              rw [hset] at hP1 hD1
              exact k1 _ _ o _ (.inr (ci, fs.set b w)) H1 locs1 ho (by show (fs.set b w).length = fs.length; exact List.length_set) hst2 hP1 hD1 hS1
        · cases hst
      · cases hst
    | arraylength =>
      simp only at hst
      obtain rfl := Nat.eq_of_beq_eq_true hok
      split at hst
      · rename_i o r
        cases hsc : Nat.beq o am_SCR with
        | true =>
          rw [hsc] at hst
          obtain rfl := Nat.eq_of_beq_eq_true hsc
          cases hlw : am_lw M with
          | false => rw [hlw] at hst; cases hst
          | true =>
            rw [hlw] at hst
            obtain ⟨x1, x2, x3⟩ := hX hlw
            exact va_slen hx hb x1 x2 x3 hS hdg (k0 _ _ _ _ (Option.some.inj hst).symm hL)
        | false =>
          rw [hsc] at hst
          simp only [cond_false] at hst
          split at hst
          · rename_i tg n f ho
            have hg := am_cW_get (G := G) (ad := ad) ho
            cases htg : Nat.beq tg 0 with
            | true => exact va_alen (x := (n, .inl f)) hx hb hK hP o 0 (cA := G.1) (by rw [hg]; show some (ad o, Sum.inl ((bif Nat.beq tg 0 then G.1 else G.2), n, Sum.inl f)) = _; rw [htg]; rfl) (ty := .int) rfl rfl hdg (k0 _ _ _ _ (Option.some.inj hst).symm hL)
            | false => exact va_alen (x := (n, .inl f)) hx hb hK hP o 1 (cA := G.2) (by rw [hg]; show some (ad o, Sum.inl ((bif Nat.beq tg 0 then G.1 else G.2), n, Sum.inl f)) = _; rw [htg]; rfl) (ty := .boolean) rfl rfl hdg (k0 _ _ _ _ (Option.some.inj hst).symm hL)
          · cases hst
      · cases hst
    | iaload =>
      simp only at hst
      obtain rfl := Nat.eq_of_beq_eq_true hok
      split at hst
      · rename_i i o r
        cases hsc : Nat.beq o am_SCR with
        | true =>
          rw [hsc] at hst
          obtain rfl := Nat.eq_of_beq_eq_true hsc
          cases hlw : am_lw M with
          | false => rw [hlw] at hst; cases hst
          | true =>
            rw [hlw] at hst
            simp only [cond_true] at hst
            obtain ⟨x1, x2, x3⟩ := hX hlw
            by_cases hi2 : am_in i X.1
            · rw [if_pos hi2] at hst
              exact va_sld hx hb x1 x2 x3 hS (vp_in_iff.mpr hi2) hdg (k0 _ _ _ _ (Option.some.inj hst).symm hL)
            · rw [if_neg hi2] at hst; cases hst
        | false =>
          rw [hsc] at hst
          simp only [cond_false] at hst
          split at hst
          · rename_i n f ho
            by_cases hi2 : am_in i n
            · rw [if_pos hi2] at hst
              exact va_iald hx hb hK hP o 0 (cA := G.1) (am_cW_get ho) rfl (vp_in_iff.mpr hi2) hdg (k0 _ _ _ _ (Option.some.inj hst).symm hL)
            · rw [if_neg hi2] at hst; cases hst
          · cases hst
      · cases hst
    | baload =>
      simp only at hst
      obtain rfl := Nat.eq_of_beq_eq_true hok
      split at hst
      · rename_i i o r
        split at hst
        · rename_i n f ho
          by_cases hi2 : am_in i n
          · rw [if_pos hi2] at hst
            exact va_zald hx hb hK hP o 1 (cA := G.2) (am_cW_get ho) rfl (vp_in_iff.mpr hi2) hdg (k0 _ _ _ _ (Option.some.inj hst).symm hL)
          · rw [if_neg hi2] at hst; cases hst
        · cases hst
      · cases hst
    | iastore =>
      simp only at hst
      obtain rfl := Nat.eq_of_beq_eq_true hok
      split at hst
      · rename_i x i o r
        split at hst
        · rename_i n f ho
          by_cases hi2 : am_in i n
          · rw [if_pos hi2] at hst
            refine va_iast hx hb hK hP hD hS o 0 (cA := G.1) (am_cW_get ho) rfl (vp_in_iff.mpr hi2) hdg (fun H1 locs1 hP1 hD1 hS1 => ?_)
            exact k1 _ _ o _ (.inl (0, n, upd f i.toNatClampNeg x)) H1 locs1 ho rfl (Option.some.inj hst).symm hP1 hD1 hS1
          · rw [if_neg hi2] at hst; cases hst
        · cases hst
      · cases hst
    | bastore =>
      simp only at hst
      obtain rfl := Nat.eq_of_beq_eq_true hok
      split at hst
      · rename_i x i o r
        split at hst
        · rename_i n f ho
          by_cases hi2 : am_in i n
          · rw [if_pos hi2] at hst
            refine va_zast hx hb hK hP hD hS o 1 (cA := G.2) (am_cW_get ho) rfl (vp_in_iff.mpr hi2) hdg (fun H1 locs1 hP1 hD1 hS1 => ?_)
            exact k1 _ _ o _ (.inl (1, n, upd f i.toNatClampNeg (vp_nar .boolean x))) H1 locs1 ho rfl (Option.some.inj hst).symm hP1 hD1 hS1
          · rw [if_neg hi2] at hst; cases hst
        · cases hst
      · cases hst
    | new idx =>
      simp only [Bool.and_eq_true] at hok hst
      obtain rfl := Nat.eq_of_beq_eq_true hok.2
      have ha : a < 7 := Nat.le_of_ble_eq_true hok.1
      cases hco : am_al M && am_wf L S h with
      | false => rw [hco] at hst; cases hst
      | true =>
        rw [hco] at hst
        simp only [am_wf, Bool.and_eq_true] at hco
        obtain ⟨-, w1, w2, w3, w4⟩ := hco
        have w4 : h.length < am_SCR := Nat.le_of_ble_eq_true w4
        obtain rfl := Option.some.inj hst
        have z1 : (h ++ [(Sum.inr (a, am_df a) : AMc)]).length = h.length + 1 := by simp
        have z2 : am_sz (h ++ [(Sum.inr (a, am_df a) : AMc)]) = am_sz h + am_N a := by simp [am_sz, am_sz1, am_df]
        dsimp only at hc hs kk
        rw [z1] at hc
        rw [z2] at hs
        refine va_new (D := D) (ci := a) hx hb hts (am_cl_in a ha) (am_ty a) (am_cl_ty a ha) hown (hts _ (am_TB_of t how rfl)) (hts _ (am_cl_new a ha).1) (hts _ (am_cl_new a ha).2) hK hP hD hS hA (am_cl_at a ha) (fs := am_df a) (fun j hj => ?_) (by omega) (by omega) hdg (fun q H1 hP1 hD1 hS1 => ?_)
        · unfold am_df vp_V
          rw [List.getD_eq_getElem?_getD, List.getElem?_map, List.getElem?_range hj]
          rfl
        · have ee : ∀ i, i < h.length ∨ i = am_SCR → (fun j => if j = h.length then q else ad j) i = ad i := by
            intro i hi
            show (if i = h.length then q else ad i) = ad i
            rw [if_neg (by rcases hi with hi | hi <;> omega)]
          have hw2 : am_cW G (fun j => if j = h.length then q else ad j) (h ++ [.inr (a, am_df a)]) = am_cW G ad h ++ [(q, .inr (a, am_df a))] := by
            rw [am_cW_push ee w3]
            show _ ++ [((if h.length = h.length then q else ad h.length), Sum.inr (a, (am_df a).map (am_rv _)))] = _
            rw [if_pos rfl, am_df_map]
          rw [← hw2] at hP1 hD1
          have := kk H1 locs ls (fun j => if j = h.length then q else ad j) (cells + 1) (slots + am_N a) (by rw [z1]; omega) (by rw [z2]; omega) hP1 hD1 hS1 (am_LR_ext ee w1 hL) (fun i hi => by rw [z1] at hi; exact if_neg (by omega)) (Or.inr (by rw [z1]; omega)) (by rw [z1]; omega) (by rw [z2]; omega)
          rw [List.map_cons, am_map_ext ee w2] at this
          rw [show am_rv (fun j => if j = h.length then q else ad j) (.ref h.length) = .ref q by show Value.ref (if h.length = h.length then q else ad h.length) = _; rw [if_pos rfl]] at this
          exact this
    | newarray aty =>
      dsimp only at hst
      split at hst
      · rename_i n r
        cases hco : am_al M && am_wf L r h with
        | false => rw [hco] at hst; cases hst
        | true =>
          rw [hco] at hst
          simp only [cond_true] at hst
          by_cases hn : 0 ≤ n.toInt ∧ n.toInt < 100000
          · rw [if_pos hn] at hst
            simp only [am_wf, Bool.and_eq_true] at hco
            obtain ⟨-, w1, w2, w3, w4⟩ := hco
            have w4 : h.length < am_SCR := Nat.le_of_ble_eq_true w4
            obtain rfl := Option.some.inj hst
            have z1 : (h ++ [(Sum.inl (a, n.toNatClampNeg, fun _ => 0) : AMc)]).length = h.length + 1 := by simp
            have z2 : am_sz (h ++ [(Sum.inl (a, n.toNatClampNeg, fun _ => 0) : AMc)]) = am_sz h + n.toNatClampNeg := by simp [am_sz, am_sz1]
            have hn0 : ¬ n < 0 := by rw [Int32.lt_iff_toInt_lt, Int32.toInt_zero]; omega
            have hnc : n.toNatClampNeg < 100000 := by
              have : n.toNatClampNeg = n.toInt.toNat := rfl
              omega
            dsimp only at hc hs kk
            rw [z1] at hc
            rw [z2] at hs
            cases aty with
            | int =>
              simp only [Bool.and_eq_true] at hok
              obtain rfl := Nat.eq_of_beq_eq_true hok.1
              obtain rfl := Nat.eq_of_beq_eq_true hok.2
              refine va_newa (atype := .int) (a0 := (n.toNatClampNeg, .inl fun _ => 0)) (N' := n.toNatClampNeg) hx hb (hts _ am_new_w.2.2.1) (ty := .int) rfl hK hP hD hS hA (fun cA => rfl) hn0 rfl (by show n.toNatClampNeg * 4 ≤ _; omega) (by omega) (by omega) hdg (fun q cA H1 hK1 hP1 hD1 hS1 => ?_)
              have hca : cA = G.1 := by
                have h5 := (hK1.2 2 (cA, .int) rfl).2
                have h6 := (hK.2 0 (G.1, .int) rfl).2
                exact Option.some.inj (h5.symm.trans h6)
              subst hca
              have ee : ∀ i, i < h.length ∨ i = am_SCR → (fun j => if j = h.length then q else ad j) i = ad i := by
                intro i hi
                show (if i = h.length then q else ad i) = ad i
                rw [if_neg (by rcases hi with hi | hi <;> omega)]
              have hw2 : am_cW G (fun j => if j = h.length then q else ad j) (h ++ [.inl (0, n.toNatClampNeg, fun _ => 0)]) = am_cW G ad h ++ [(q, .inl (G.1, n.toNatClampNeg, .inl fun _ => 0))] := by
                rw [am_cW_push ee w3]
                show _ ++ [((if h.length = h.length then q else ad h.length), _)] = _
                rw [if_pos rfl]
                rfl
              rw [← hw2] at hP1 hD1
              have := kk H1 locs ls (fun j => if j = h.length then q else ad j) (cells + 1) (slots + n.toNatClampNeg) (by rw [z1]; omega) (by rw [z2]; omega) hP1 hD1 hS1 (am_LR_ext ee w1 hL) (fun i hi => by rw [z1] at hi; exact if_neg (by omega)) (Or.inr (by rw [z1]; omega)) (by rw [z1]; omega) (by rw [z2]; omega)
              rw [List.map_cons, am_map_ext ee w2] at this
              rw [show am_rv (fun j => if j = h.length then q else ad j) (.ref h.length) = .ref q by show Value.ref (if h.length = h.length then q else ad h.length) = _; rw [if_pos rfl]] at this
              exact this
            | boolean =>
              simp only [Bool.and_eq_true] at hok
              obtain rfl := Nat.eq_of_beq_eq_true hok.1
              obtain rfl := Nat.eq_of_beq_eq_true hok.2
              refine va_newa (atype := .boolean) (a0 := (n.toNatClampNeg, .inl fun _ => 0)) (N' := n.toNatClampNeg) hx hb (hts _ am_new_w.2.2.2) (ty := .boolean) rfl hK hP hD hS hA (fun cA => rfl) hn0 rfl (by show n.toNatClampNeg * 1 ≤ _; omega) (by omega) (by omega) hdg (fun q cA H1 hK1 hP1 hD1 hS1 => ?_)
              have hca : cA = G.2 := by
                have h5 := (hK1.2 2 (cA, .boolean) rfl).2
                have h6 := (hK.2 1 (G.2, .boolean) rfl).2
                exact Option.some.inj (h5.symm.trans h6)
              subst hca
              have ee : ∀ i, i < h.length ∨ i = am_SCR → (fun j => if j = h.length then q else ad j) i = ad i := by
                intro i hi
                show (if i = h.length then q else ad i) = ad i
                rw [if_neg (by rcases hi with hi | hi <;> omega)]
              have hw2 : am_cW G (fun j => if j = h.length then q else ad j) (h ++ [.inl (1, n.toNatClampNeg, fun _ => 0)]) = am_cW G ad h ++ [(q, .inl (G.2, n.toNatClampNeg, .inl fun _ => 0))] := by
                rw [am_cW_push ee w3]
                show _ ++ [((if h.length = h.length then q else ad h.length), _)] = _
                rw [if_pos rfl]
                rfl
              rw [← hw2] at hP1 hD1
              have := kk H1 locs ls (fun j => if j = h.length then q else ad j) (cells + 1) (slots + n.toNatClampNeg) (by rw [z1]; omega) (by rw [z2]; omega) hP1 hD1 hS1 (am_LR_ext ee w1 hL) (fun i hi => by rw [z1] at hi; exact if_neg (by omega)) (Or.inr (by rw [z1]; omega)) (by rw [z1]; omega) (by rw [z2]; omega)
              rw [List.map_cons, am_map_ext ee w2] at this
              rw [show am_rv (fun j => if j = h.length then q else ad j) (.ref h.length) = .ref q by show Value.ref (if h.length = h.length then q else ad h.length) = _; rw [if_pos rfl]] at this
              exact this
            | _ => simp at hok
          · rw [if_neg hn] at hst; cases hst
      · cases hst
    | invokespecial idx =>
      simp only [Bool.and_eq_true, Bool.or_eq_true] at hok hst
      obtain rfl := Nat.eq_of_beq_eq_true hok.1
      split at hst
      · rename_i o r
        cases hco : Nat.beq a 999 && (Nat.ble 1 (am_fr M) && Nat.ble ((r.map fun v => v.category).sum + 12) (am_lo M)) with
        | false => rw [hco] at hst; cases hst
        | true =>
          rw [hco] at hst
          simp only [Bool.and_eq_true] at hco
          obtain ⟨c1, c2, c3⟩ := hco
          obtain rfl := Nat.eq_of_beq_eq_true c1
          have c2 := Nat.le_of_ble_eq_true c2
          have c3 := Nat.le_of_ble_eq_true c3
          have hcat : ((r.map (am_rv ad)).map fun v => v.category).sum = (r.map fun v => v.category).sum := by
            rw [List.map_map]
            congr 1
            exact List.map_congr_left (fun v _ => am_rv_cat ad v)
          refine W.objInit hx hb hown (hts _ (am_TB_of t how rfl)) (hts _ am_new_w.1) (hts _ am_new_w.2.1) rfl (by rw [hml]; exact hL.1) rfl hdg (Nat.le_trans c2 hfr) (by show 2 * 0 + _ + 12 ≤ _; rw [hcat]; omega) ?_
          exact k0 _ _ _ _ (Option.some.inj hst).symm hL
      · cases hst
    | invokestatic idx =>
      simp only [Bool.and_eq_true, Bool.or_eq_true] at hok hst
      obtain rfl := Nat.eq_of_beq_eq_true hok.1
      have hcat : ∀ r : List Value, ((r.map (am_rv ad)).map fun v => v.category).sum = (r.map fun v => v.category).sum := by
        intro r
        rw [List.map_map]
        congr 1
        exact List.map_congr_left (fun v _ => am_rv_cat ad v)
      split at hst
      · rename_i y r
        cases h7 : Nat.beq a 997 with
        | true =>
          rw [h7] at hst
          simp only [cond_true] at hst
          obtain rfl := Nat.eq_of_beq_eq_true h7
          cases hco : Nat.ble 1 (am_fr M) && Nat.ble ((r.map fun v => v.category).sum + 15) (am_lo M) with
          | false => rw [hco] at hst; cases hst
          | true =>
            rw [hco] at hst
            simp only [Bool.and_eq_true] at hco
            have c2 := Nat.le_of_ble_eq_true hco.1
            have c3 := Nat.le_of_ble_eq_true hco.2
            exact va_mabs hx hb (by rw [hml]; exact hL.1.symm) hown (hts _ (am_TB_of t how rfl)) (hts _ am_math_w.2.1.1) (hts _ am_math_w.1) (hts _ am_math_w.2.1.2) (Nat.le_trans c2 hfr) (by rw [hcat]; omega) hce hse hdg (k0 _ _ _ _ (Option.some.inj hst).symm hL)
        | false =>
          rw [h7] at hst
          simp only [cond_false] at hst
          cases h6 : Nat.beq a 996 with
          | false => rw [h6] at hst; cases hst
          | true =>
            rw [h6] at hst
            simp only [cond_true] at hst
            obtain rfl := Nat.eq_of_beq_eq_true h6
            split at hst
            · rename_i x r2
              cases hco : Nat.ble 1 (am_fr M) && Nat.ble ((r2.map fun v => v.category).sum + 15) (am_lo M) with
              | false => rw [hco] at hst; cases hst
              | true =>
                rw [hco] at hst
                simp only [Bool.and_eq_true] at hco
                have c2 := Nat.le_of_ble_eq_true hco.1
                have c3 := Nat.le_of_ble_eq_true hco.2
                exact va_mmax hx hb (by rw [hml]; exact hL.1.symm) hown (hts _ (am_TB_of t how rfl)) (hts _ am_math_w.2.2.1.1) (hts _ am_math_w.1) (hts _ am_math_w.2.2.1.2) (Nat.le_trans c2 hfr) (by rw [hcat]; omega) hce hse hdg (k0 _ _ _ _ (Option.some.inj hst).symm hL)
            · cases hst
      · rename_i y x r
        cases hco : Nat.beq a 995 && (Nat.ble 1 (am_fr M) && Nat.ble ((r.map fun v => v.category).sum + 15) (am_lo M)) with
        | false => rw [hco] at hst; cases hst
        | true =>
          rw [hco] at hst
          simp only [Bool.and_eq_true] at hco
          obtain ⟨c1, c2, c3⟩ := hco
          obtain rfl := Nat.eq_of_beq_eq_true c1
          have c2 := Nat.le_of_ble_eq_true c2
          have c3 := Nat.le_of_ble_eq_true c3
          exact va_mmax_long hx hb (by rw [hml]; exact hL.1.symm) hown (hts _ (am_TB_of t how rfl)) (hts _ am_math_w.2.2.2.1) (hts _ am_math_w.1) (hts _ am_math_w.2.2.2.2) (Nat.le_trans c2 hfr) (by rw [hcat]; omega) hce hse hdg (k0 _ _ _ _ (Option.some.inj hst).symm hL)
      · cases hst
    | _ => cases hst
end AmSnd
end
section
/-! Runs: they grow; a run of the small machine is a run of the JVM. -/
theorem am_bne {a b : Nat} (h : a ≠ b) : Nat.beq a b = false := by
  cases z : Nat.beq a b with
  | false => rfl
  | true => exact absurd (Nat.eq_of_beq_eq_true z) h
set_option maxRecDepth 100000 in
set_option maxHeartbeats 40000000 in
theorem am_stp_grow {X : AMx} {M : AMinfo} {pc : Nat} {L : AMl} {S : List Value} {h : List AMc} {st : AMst} (hst : am_stp X M pc L S h = some st) : h.length ≤ st.2.2.2.length ∧ am_sz h ≤ am_sz st.2.2.2 ∧ (am_al M = false → st.2.2.2.length = h.length) := by
  unfold am_stp at hst
  cases hf : am_fnd (am_rows M) pc with
  | none => rw [hf] at hst; cases hst
  | some rd =>
    rw [hf] at hst
    obtain ⟨ins, len, a, b, v, tab, t⟩ := rd
    have same : ∀ {pc' : Nat} {L' : AMl} {S' : List Value}, (pc', L', S', h) = st → h.length ≤ st.2.2.2.length ∧ am_sz h ≤ am_sz st.2.2.2 ∧ (am_al M = false → st.2.2.2.length = h.length) := by
      intro pc' L' S' e1
      subst e1
      exact ⟨Nat.le_refl _, Nat.le_refl _, fun _ => rfl⟩
    have setc : ∀ {pc' : Nat} {L' : AMl} {S' : List Value} {o : Nat} {c0 c' : AMc}, h[o]? = some c0 → am_sz1 c' = am_sz1 c0 → (pc', L', S', h.set o c') = st → h.length ≤ st.2.2.2.length ∧ am_sz h ≤ am_sz st.2.2.2 ∧ (am_al M = false → st.2.2.2.length = h.length) := by
      intro pc' L' S' o c0 c' ho hz e1
      subst e1
      have e3 : am_sz (h.set o c') = am_sz h := am_sz_set ho hz
      exact ⟨by dsimp only; rw [List.length_set]; exact Nat.le_refl _, by dsimp only; rw [e3]; exact Nat.le_refl _, fun _ => List.length_set⟩
    have app : ∀ {pc' : Nat} {L' : AMl} {S' : List Value} {c' : AMc}, am_al M = true → (pc', L', S', h ++ [c']) = st → h.length ≤ st.2.2.2.length ∧ am_sz h ≤ am_sz st.2.2.2 ∧ (am_al M = false → st.2.2.2.length = h.length) := by
      intro pc' L' S' c' hal e1
      subst e1
      exact ⟨by simp, by simp [am_sz], fun z => by rw [hal] at z; cases z⟩
    dsimp only at hst
    cases ins <;> dsimp only at hst <;> (try simp only [Bool.cond_eq_ite] at hst) <;> first
      | (cases hst; done)
      | exact same (Option.some.inj hst)
      | (repeat' split at hst) <;> first
        | (cases hst; done)
        | exact same (Option.some.inj hst)
        | (rename_i ho hcnd; simp only [Bool.and_eq_true] at hcnd; exact setc ho (by show (List.set _ _ _).length = _; exact List.length_set) (Option.some.inj hst))
        | (rename_i ho hcnd; refine setc ho ?_ (Option.some.inj hst); rfl)
        | (rename_i hcnd; simp only [Bool.and_eq_true] at hcnd; exact app hcnd.1 (Option.some.inj hst))
        | (rename_i hcnd h2; simp only [Bool.and_eq_true] at hcnd; exact app hcnd.1 (Option.some.inj hst))
theorem am_cal_spec {M : AMinfo} {pc : Nat} {S : List Value} {h : List AMc} {d : Nat} {as rest : List Value} (hc : am_cal M pc S h = some (d, as, rest)) : ∃ (ins : Instr) (len a b : Nat) (v : Value) (tab : List (Int32 × Nat)) (t : Nat), am_fnd (am_rows M) pc = some (ins, len, a, b, v, tab, t) ∧ d = a ∧ as = (S.take b).reverse ∧ rest = S.drop b ∧ am_cok M (am_mg a) b S = true ∧ a < 900 ∧ ((∃ i, ins = .invokevirtual i ∧ am_rcv (am_mg a) h as = true) ∨ (∃ i, ins = .invokestatic i) ∨ (∃ i, ins = .invokespecial i ∧ am_rcv (am_mg a) h as = true)) := by
  unfold am_cal at hc
  cases hf : am_fnd (am_rows M) pc with
  | none => rw [hf] at hc; cases hc
  | some rd =>
    rw [hf] at hc
    obtain ⟨ins, len, a, b, v, tab, t⟩ := rd
    dsimp only at hc
    refine ⟨ins, len, a, b, v, tab, t, rfl, ?_⟩
    cases ins with
    | invokevirtual i =>
      dsimp only at hc
      cases hk : Nat.blt a 900 && am_cok M (am_mg a) b S && am_rcv (am_mg a) h ((S.take b).reverse) with
      | false => rw [hk] at hc; cases hc
      | true =>
        rw [hk] at hc
        cases hc
        simp only [Bool.and_eq_true] at hk
        exact ⟨rfl, rfl, rfl, hk.1.2, Nat.le_of_ble_eq_true hk.1.1, Or.inl ⟨i, rfl, hk.2⟩⟩
    | invokestatic i =>
      dsimp only at hc
      cases hk : Nat.blt a 900 && am_cok M (am_mg a) b S with
      | false => rw [hk] at hc; cases hc
      | true =>
        rw [hk] at hc
        cases hc
        simp only [Bool.and_eq_true] at hk
        exact ⟨rfl, rfl, rfl, hk.2, Nat.le_of_ble_eq_true hk.1, Or.inr (Or.inl ⟨i, rfl⟩)⟩
    | invokespecial i =>
      dsimp only at hc
      cases hk : Nat.blt a 900 && am_cok M (am_mg a) b S && am_rcv (am_mg a) h ((S.take b).reverse) with
      | false => rw [hk] at hc; cases hc
      | true =>
        rw [hk] at hc
        cases hc
        simp only [Bool.and_eq_true] at hk
        exact ⟨rfl, rfl, rfl, hk.1.2, Nat.le_of_ble_eq_true hk.1.1, Or.inr (Or.inr ⟨i, rfl, hk.2⟩)⟩
    | _ => cases hc
theorem am_mw_0 {M : AMinfo} {idx d : Nat} (hd : d < 900) : am_mw M idx d (.int 0) = some (.methodLink (am_R (am_cls M)) idx (am_y (am_mg d))) := by
  unfold am_mw
  rw [am_bne (by omega : d ≠ 999), am_bne (by omega : d ≠ 997), am_bne (by omega : d ≠ 996), am_bne (by omega : d ≠ 995)]
  rfl
theorem am_mw_1 {M : AMinfo} {idx d : Nat} (hd : d < 900) : am_mw M idx d (.int 1) = some (.methodLinkNest (am_R (am_cls M)) idx (am_y (am_mg d)) RX5) := by
  unfold am_mw
  rw [am_bne (by omega : d ≠ 999), am_bne (by omega : d ≠ 997), am_bne (by omega : d ≠ 996), am_bne (by omega : d ≠ 995)]
  rfl
theorem am_rcv_spec {K : AMinfo} {h : List AMc} {as : List Value} (hr : am_rcv K h as = true) : ∃ (o ci : Nat) (fs tl : List Value), as = .ref o :: tl ∧ h[o]? = some (.inr (ci, fs)) ∧ ci = am_cls K := by
  unfold am_rcv at hr
  split at hr
  · rename_i o tl
    split at hr
    · rename_i ci fs ho
      exact ⟨o, ci, fs, tl, rfl, ho, Nat.eq_of_beq_eq_true hr⟩
    · cases hr
  · cases hr
theorem am_vw_lt {G : ClassId × ClassId} {D : va_G} {ad : Nat → Nat} {h : List AMc} {H : Heap} {o ci : Nat} {fs : List Value} (hP : va_P D vwCl (am_cW G ad h) H) (ho : h[o]? = some (.inr (ci, fs))) : ci < 7 := by
  obtain ⟨r, h1, -⟩ := hP o _ (am_cW_get ho)
  exact (List.getElem?_eq_some_iff.mp h1).1
theorem am_mg_mem (k : Nat) : am_mg k ∈ am_mt := by
  unfold am_mg
  rw [List.getD_eq_getElem?_getD]
  cases hk : am_mt[k]? with
  | none => exact List.mem_of_getElem? (i := 79) rfl
  | some M => exact List.mem_of_getElem? hk
theorem am_run_grow (X : AMx) : ∀ (n : Nat) {M : AMinfo} {pc : Nat} {L : AMl} {S : List Value} {h : List AMc} {r : Option Value × List AMc}, am_run X n M pc L S h = some r → h.length ≤ r.2.length ∧ am_sz h ≤ am_sz r.2 ∧ (am_al M = false → r.2.length = h.length)
  | 0, M, pc, L, S, h, r, hr => by simp [am_run] at hr
  | n + 1, M, pc, L, S, h, r, hr => by
    rw [am_run] at hr
    cases h1 : am_stp X M pc L S h with
    | some st =>
      simp only [h1] at hr
      have g := am_stp_grow h1
      have ih := am_run_grow X n hr
      exact ⟨Nat.le_trans g.1 ih.1, Nat.le_trans g.2.1 ih.2.1, fun z => (ih.2.2 z).trans (g.2.2 z)⟩
    | none =>
      simp only [h1] at hr
      cases h2 : am_ret M pc S with
      | some v => simp only [h2] at hr; cases hr; exact ⟨Nat.le_refl _, Nat.le_refl _, fun _ => rfl⟩
      | none =>
        simp only [h2] at hr
        cases h3 : am_cal M pc S h with
        | none => simp only [h3] at hr; cases hr
        | some q =>
          obtain ⟨d, as, rest⟩ := q
          simp only [h3] at hr
          cases h4 : am_run X n (am_mg d) 0 (am_ent (am_mg d) as) [] h with
          | none => simp only [h4] at hr; cases hr
          | some w =>
            simp only [h4] at hr
            cases h5 : am_bk (am_mg d) L rest h w.2 with
            | false => simp only [h5, cond_false] at hr; cases hr
            | true =>
              simp only [h5, cond_true] at hr
              have g := am_run_grow X n h4
              have ih := am_run_grow X n hr
              refine ⟨Nat.le_trans g.1 ih.1, Nat.le_trans g.2.1 ih.2.1, fun z => (ih.2.2 z).trans (g.2.2 ?_)⟩
              obtain ⟨ins, len, a, b, v, tab, t, -, rfl, -, -, hk, -, -⟩ := am_cal_spec h3
              simp only [am_cok, Bool.and_eq_true, Bool.or_eq_true] at hk
              have := hk.2.2.2.2
              rw [z] at this
              simpa using this
def am_ws (M : AMinfo) : List Cond := .code (am_y M) (am_by M) (am_nL M) (am_rt M) :: am_TB
def am_rm (M : AMinfo) (mc ms : Nat) : Room := { frames := am_fr M, cells := mc, slots := ms, locals := am_lo M }
def am_Pc (G : ClassId × ClassId) (D : va_G) (ad : Nat → Nat) (h : List AMc) (as : List Value) (sz : Nat) : Array Value → State → Prop := va_Pc (as.map (am_rv ad)) (fun U => U.heap.size = sz ∧ va_P D vwCl (am_cW G ad h) U.heap ∧ va_K D vwCl [(G.1, .int), (G.2, .boolean)] U ∧ va_D (fun _ => True) (am_cW G ad h) ∧ am_NW U)
def am_Qc (G : ClassId × ClassId) (D : va_G) (ad : Nat → Nat) (h : List AMc) (v : Option Value) (h' : List AMc) (sz : Nat) : Array Value → State → Outcome → State → Prop := fun _ st o t => (∃ ad' : Nat → Nat, (∀ i, i < h.length ∨ h'.length ≤ i → ad' i = ad i) ∧ o = .returned (v.map (am_rv ad')) ∧ va_P D vwCl (am_cW G ad' h') t.heap ∧ va_D (va_A (am_cW G ad h) sz) (am_cW G ad' h')) ∧ va_F (va_A (am_cW G ad h) sz) st t
theorem am_NW_vm {u U : State} (hv : u.vm = U.vm) (h : am_NW u) : am_NW U := fun own idx x host hw => (h own idx x host hw).same rfl hv
theorem am_NW_warm {s U : State} (hW : s.WarmedH U.vm) (h : am_NW s) : am_NW U := fun own idx x host hw => va_Nw.warmM hW (h own idx x host hw)
theorem am_Pc_blind {G : ClassId × ClassId} {D : va_G} {ad : Nat → Nat} {h : List AMc} {as : List Value} {sz : Nat} : FrameBlind (am_Pc G D ad h as sz) := by
  intro a U g mk q
  obtain ⟨q0, q1, qP, qK, qD, qN⟩ := q
  exact ⟨q0, q1, qP, va_K.moved (u := U) (U := U.calling g mk a) (Vm.Alike.refl U.vm) qK, qD, am_NW_vm (u := U) rfl qN⟩
section AmCall
variable {p : Program} {l : Launch} {e : Env} {R : Room} {s : State} {m : MethodId} {args : Array Value} {below : List Frame} {meth : Method} {c : Code} {Q : State → Prop}
theorem am_callG {G : ClassId × ClassId} {D : va_G} {A : Nat → Prop} {ad : Nat → Nat} {h h1 : List AMc} {v : Option Value} {H : Heap} {locs : List Loc} {cells slots mc ms pc : Nat} {ls : Array Slot} {st0 rest : List Value} {a : Array Value} (hr : va_Run p l e R s m args below meth c H locs cells slots mc ms (F0 m pc ls st0) rest (am_Qc G D ad h v h1 H.size a) (va_A (am_cW G ad h) H.size)) (hS : va_S A s.heap H locs) (hA1 : ∀ q, va_A (am_cW G ad h) H.size q → A q)
    (kk : ∀ (ad' : Nat → Nat) (H1 : Heap) (locs1 : List Loc), (∀ i, i < h.length ∨ h1.length ≤ i → ad' i = ad i) → va_P D vwCl (am_cW G ad' h1) H1 → va_D A (am_cW G ad' h1) → va_S A s.heap H1 locs1 → W p l e R s m args below meth c H1 locs1 (cells + mc) (slots + ms) Q (F0 m (pc + 3) ls ((v.map (am_rv ad')).toList ++ rest))) : W p l e R s m args below meth c H locs cells slots Q (F0 m pc ls st0) := by
  intro T hT X
  obtain ⟨v', st₀, t, T', L, h0, X', hL, e1, e2, ⟨⟨ad', hag, hv, hP1, hD1⟩, hz, hk⟩, st⟩ := hr T hT X
  cases hv
  rw [h0] at hz hk
  obtain ⟨t2, a1, b1⟩ := kk ad' T'.heap (locs ++ L) hag (by rw [e1]; exact hP1) (hD1.weaken (fun _ _ _ z => hA1 _ z))
    ⟨Nat.le_trans hS.1 (by rw [e1]; exact hz), fun q h1 h2 => by rw [e1, hk q (Nat.lt_of_lt_of_le h1 hS.1) (fun z => h2 (hA1 q z))]; exact hS.2.1 q h1 h2, fun q hq => by
      rcases List.mem_append.mp hq with h | h
      · exact hS.2.2 q h
      · exact hA1 _ (hL q h)⟩ T' rfl X'
  exact ⟨t2, st t2 a1, b1⟩
end AmCall
/-- a run of n steps is a run of the machine -/
def am_P (X : AMx) (n : Nat) : Prop := ∀ (M : AMinfo) (p : Program) (l : Launch) (e : Env) (R : Room) (s : State) (m : MethodId) (args : Array Value) (below : List Frame) (meth : Method) (c : Code) (Q : State → Prop) (G : ClassId × ClassId) (D : va_G) (A : Nat → Prop) (pc : Nat) (L : AMl) (S : List Value) (h : List AMc) (v : Option Value) (h' : List AMc) (ad : Nat → Nat) (ls : Array Slot) (H : Heap) (locs : List Loc) (cells slots CF SF n0 : Nat) (ad0 : Nat → Nat),
  am_Cx M p R s m args meth c A G D → am_run X n M pc L S h = some (v, h') → va_P D vwCl (am_cW G ad h) H → va_D A (am_cW G ad h) → va_S A s.heap H locs → am_LR ad L (am_nL M) ls → (am_lw M = true → va_X (ad am_SCR) X.1 X.2 s s.heap ∧ ad am_SCR < s.heap.size ∧ ¬ A (ad am_SCR)) → cells + h'.length = CF + h.length → slots + am_sz h' = SF + am_sz h → CF ≤ R.cells → SF ≤ R.slots → n0 ≤ h.length → (∀ i, i < n0 ∨ h.length ≤ i → ad i = ad0 i) →
  (∀ (pcr : Nat) (lsr : Array Slot) (Sr : List Value) (H1 : Heap) (locs1 : List Loc) (ad1 : Nat → Nat), am_ret M pcr Sr = some v → va_P D vwCl (am_cW G ad1 h') H1 → va_D A (am_cW G ad1 h') → va_S A s.heap H1 locs1 → (∀ i, i < n0 ∨ h'.length ≤ i → ad1 i = ad0 i) → W p l e R s m args below meth c H1 locs1 CF SF Q (F0 m pcr lsr (Sr.map (am_rv ad1)))) →
  W p l e R s m args below meth c H locs cells slots Q (F0 m pc ls (S.map (am_rv ad)))
theorem am_ret_row {M : AMinfo} {pc : Nat} {S : List Value} {v : Option Value} (h : am_ret M pc S = some v) (hM : M ∈ am_mt) : (∃ x, S = [.int x] ∧ am_rt M = some .int ∧ v = some (.int x) ∧ decode (am_by M) pc = .ok (.ireturn, 1)) ∨ (∃ x, S = [.int x] ∧ am_rt M = some .boolean ∧ (x = 0 ∨ x = 1) ∧ v = some (.int x) ∧ decode (am_by M) pc = .ok (.ireturn, 1)) ∨ (∃ x, S = [.long x] ∧ am_rt M = some .long ∧ v = some (.long x) ∧ decode (am_by M) pc = .ok (.lreturn, 1)) ∨ (∃ x C, S = [.ref x] ∧ am_rt M = some (.object C) ∧ v = some (.ref x) ∧ decode (am_by M) pc = .ok (.areturn, 1)) ∨ (S = [] ∧ am_rt M = none ∧ v = none ∧ decode (am_by M) pc = .ok (.return_, 1)) := by
  unfold am_ret at h
  cases hf : am_fnd (am_rows M) pc with
  | none => rw [hf] at h; cases h
  | some rd =>
    rw [hf] at h
    have hm := am_fnd_mem hf
    have hok := List.all_eq_true.mp (am_mt_ok M hM).1 _ hm
    obtain ⟨ins, len, a, b, v', tab, t⟩ := rd
    dsimp only at h
    simp only [am_ok, Bool.and_eq_true, decide_eq_true_eq] at hok
    obtain ⟨hdg, hok⟩ := hok
    cases ins with
    | ireturn =>
      dsimp only at h hok
      obtain rfl := Nat.eq_of_beq_eq_true hok
      split at h
      · rename_i x
        split at h
        · rename_i hrt
          exact Or.inl ⟨x, rfl, hrt, (Option.some.inj h).symm, hdg⟩
        · rename_i hrt
          refine Or.inr (Or.inl ⟨x, rfl, hrt, ?_⟩)
          by_cases h0 : x = 0
          · rw [if_pos h0] at h
            subst h0
            exact ⟨Or.inl rfl, (Option.some.inj h).symm, hdg⟩
          · rw [if_neg h0] at h
            by_cases h1 : x = 1
            · rw [if_pos h1] at h
              subst h1
              exact ⟨Or.inr rfl, (Option.some.inj h).symm, hdg⟩
            · rw [if_neg h1] at h; cases h
        · cases h
      · cases h
    | lreturn =>
      dsimp only at h hok
      obtain rfl := Nat.eq_of_beq_eq_true hok
      split at h
      · rename_i x
        split at h
        · rename_i hrt
          exact Or.inr (Or.inr (Or.inl ⟨x, rfl, hrt, (Option.some.inj h).symm, hdg⟩))
        · cases h
      · cases h
    | areturn =>
      dsimp only at h hok
      obtain rfl := Nat.eq_of_beq_eq_true hok
      split at h
      · rename_i x
        split at h
        · rename_i C hrt
          exact Or.inr (Or.inr (Or.inr (Or.inl ⟨x, C, rfl, hrt, (Option.some.inj h).symm, hdg⟩)))
        · cases h
      · cases h
    | return_ =>
      dsimp only at h hok
      obtain rfl := Nat.eq_of_beq_eq_true hok
      split at h
      · split at h
        · rename_i hrt
          exact Or.inr (Or.inr (Or.inr (Or.inr ⟨rfl, hrt, (Option.some.inj h).symm, hdg⟩)))
        · cases h
      · cases h
    | _ => cases h
/-- a method's contract -/
theorem am_met {X : AMx} {n : Nat} (hPn : am_P X n) {K : AMinfo} (hK : K ∈ am_mt) (hlw : am_lw K = false) {as : List Value} {h h' : List AMc} {v : Option Value} (hrun : am_run X n K 0 (am_ent K as) [] h = some (v, h')) (hn : (am_sl as).length ≤ am_nL K) (l : Launch) (G : ClassId × ClassId) (D : va_G) (ad : Nat → Nat) (sz : Nat) :
    Met l (am_y K) (am_ws K) (am_rm K (h'.length - h.length) (am_sz h' - am_sz h)) (am_Pc G D ad h as sz) (am_Qc G D ad h v h' sz) (h'.length - h.length) (am_sz h' - am_sz h) (va_A (am_cW G ad h) sz) := by
  obtain ⟨-, -, hm⟩ := am_mt_ok K hK
  obtain ⟨⟨hcode, hini, hcl, hpl, -⟩, -⟩ := hm hlw
  refine Met.ofW (cc := am_by K) (maxL := am_nL K) (ret := am_rt K) hpl rfl ?_
  intro p e s m args below meth c s₁ B hml hv
  obtain ⟨rfl, hsz, hP, hKs, hD0, hN⟩ := hv
  subst hsz
  have hts := atoms_spec (ws := am_ws K) B.pre
  have hown : s.vm.findClass (am_R (am_cls K)) = some m.cls := by rw [← hcl]; exact findClass_of_methodNamed B.named
  have hlocks := B.notSynchronized
  have hD : va_D (va_A (am_cW G ad h) s.heap.size) (am_cW G ad h) := hD0.self
  have g := am_run_grow X n hrun
  dsimp only at g
  have hCx : am_Cx K p (headSpec (am_ws K) (am_rm K (h'.length - h.length) (am_sz h' - am_sz h))).room s m ((as.map (am_rv ad)).toArray) meth c (va_A (am_cW G ad h) s.heap.size) G D :=
    ⟨hK, B.exec, B.bytes, hml, B.returns, hlocks, hown, fun w hw => hts w (List.mem_cons_of_mem _ hw), fun z => ((name_of_methodNamed B.named B.method).1).trans z, fun q hq => Or.inr hq, hKs, hN, Nat.le_refl _, Nat.le_refl _⟩
  rw [lg_entry_eq]
  refine hPn K p l e _ s m _ below meth c _ G D (va_A (am_cW G ad h) s.heap.size) 0 (am_ent K as) [] h v h' ad _ s.heap [] 0 0 (h'.length - h.length) (am_sz h' - am_sz h) h.length ad hCx hrun hP hD va_S.rf (am_LR_ent hn) (fun z => by rw [hlw] at z; cases z) (by omega) (by omega) (Nat.le_refl _) (Nat.le_refl _) (Nat.le_refl _) (fun _ _ => rfl) ?_
  intro pcr lsr Sr H1 locs1 ad1 hret hP1 hD1 hS1 hag
  have hq : ∀ t : State, t.heap = H1 → s.WarmedH t.vm → am_Qc G D ad h v h' s.heap.size ((as.map (am_rv ad)).toArray) s (.returned (v.map (am_rv ad1))) t := fun t ht hW => ⟨⟨ad1, hag, rfl, by rw [ht]; exact hP1, hD1⟩, hS1.F ht⟩
  rcases am_ret_row hret hK with ⟨x, rfl, hrt, rfl, hdg⟩ | ⟨x, rfl, hrt, hx, rfl, hdg⟩ | ⟨x, rfl, hrt, rfl, hdg⟩ | ⟨x, C, rfl, hrt, rfl, hdg⟩ | ⟨rfl, hrt, rfl, hdg⟩
  · exact W.iret (v := x) B.exec B.bytes (by rw [B.returns]; exact hrt) hq hS1.2.2 hdg hlocks
  · exact W.zret (v := x) (ty := .boolean) B.exec B.bytes (by rw [B.returns]; exact hrt) (by rcases hx with rfl | rfl <;> rfl) hq hS1.2.2 hdg hlocks
  · exact W.lret (v := x) B.exec B.bytes (by rw [B.returns]; exact hrt) hq hS1.2.2 hdg hlocks
  · exact W.aret (v := .ref (ad1 x)) B.exec B.bytes (by rw [B.returns]; exact hrt) (Or.inl ⟨C, rfl⟩) (Or.inr ⟨_, rfl⟩) hq hS1.2.2 hdg hlocks
  · exact W.vret B.exec B.bytes (by rw [B.returns]; exact hrt) hq hS1.2.2 hdg hlocks
set_option maxRecDepth 100000 in
set_option maxHeartbeats 40000000 in
theorem am_all (X : AMx) : ∀ n, am_P X n := by
  intro n
  induction n with
  | zero =>
    intro M p l e R s m args below meth c Q G D A pc L S h v h' ad ls H locs cells slots CF SF n0 ad0 C hr
    simp [am_run] at hr
  | succ n ih =>
    intro M p l e R s m args below meth c Q G D A pc L S h v h' ad ls H locs cells slots CF SF n0 ad0 C hr hP hD hS hL hX hcc hss hcf hsf hn0 hag hret
    rw [am_run] at hr
    cases h1 : am_stp X M pc L S h with
    | some st =>
      simp only [h1] at hr
      have g := am_stp_grow h1
      have gr := am_run_grow X n hr
      dsimp only at gr
      refine am_snd C h1 hP hD hS hL hX (by omega) (by omega) (fun H1 locs1 ls1 ad1 c1 s1 e1 e2 hP1 hD1 hS1 hL1 ha1 hsc _ _ => ?_)
      have hX1 : ad1 am_SCR = ad am_SCR := by
        apply ha1
        rcases hsc with z | z <;> omega
      exact ih M p l e R s m args below meth c Q G D A _ _ _ _ v h' ad1 ls1 H1 locs1 c1 s1 CF SF n0 ad0 C hr hP1 hD1 hS1 hL1 (fun z => by rw [hX1]; exact hX z) (by omega) (by omega) hcf hsf (by omega) (fun i hi => (ha1 i (by omega)).trans (hag i (by omega))) hret
    | none =>
      simp only [h1] at hr
      cases h2 : am_ret M pc S with
      | some v' =>
        simp only [h2] at hr
        cases hr
        obtain rfl : cells = CF := by omega
        obtain rfl : slots = SF := by omega
        exact hret pc ls S H locs ad h2 hP hD hS (fun i hi => hag i (by omega))
      | none =>
        simp only [h2] at hr
        cases h3 : am_cal M pc S h with
        | none => simp only [h3] at hr; cases hr
        | some q =>
          obtain ⟨d, as, rest⟩ := q
          simp only [h3] at hr
          cases h4 : am_run X n (am_mg d) 0 (am_ent (am_mg d) as) [] h with
          | none => simp only [h4] at hr; cases hr
          | some w =>
            obtain ⟨v1, hh1⟩ := w
            simp only [h4] at hr
            cases h5 : am_bk (am_mg d) L rest h hh1 with
            | false => simp only [h5, cond_false] at hr; cases hr
            | true =>
              simp only [h5, cond_true] at hr
              have g1 := am_run_grow X n h4
              have g2 := am_run_grow X n hr
              dsimp only at g1 g2
              obtain ⟨ins, len, a, b, vv, tab, t, hf, rfl, has, hrest, hk, hd9, hins⟩ := am_cal_spec h3
              obtain ⟨hM, hx, hb, hml, hrr, hlk, hown, hts, hin, hA, hKs, hN, hfr, hlo⟩ := id C
              have hm := am_fnd_mem hf
              have hok := List.all_eq_true.mp (am_mt_ok M hM).1 _ hm
              have how := am_okws_mem (am_mt_ok M hM).2.1 _ hm
              unfold am_okw am_word at how
              dsimp only at how
              simp only [am_ok, Bool.and_eq_true, decide_eq_true_eq] at hok
              obtain ⟨hdg, hok⟩ := hok
              simp only [am_cok, Bool.and_eq_true, Bool.or_eq_true] at hk
              obtain ⟨k1, ⟨k2, k3⟩, k4, k5, k6⟩ := hk
              have k1 := Nat.le_of_ble_eq_true k1
              have k2 := Nat.le_of_ble_eq_true k2
              have k3 := Nat.le_of_ble_eq_true k3
              have k4 := Nat.le_of_ble_eq_true k4
              have k5 := Nat.le_of_ble_eq_true k5
              rw [← has] at k1
              have hlen : as.length = b := by rw [has, List.length_reverse, List.length_take]; omega
              have hS2 : S = as.reverse ++ rest := by rw [has, hrest, List.reverse_reverse, List.take_append_drop]
              have hS3 : S.map (am_rv ad) = (as.map (am_rv ad)).reverse ++ rest.map (am_rv ad) := by rw [hS2, List.map_append, List.map_reverse]
              have hKm := am_mg_mem d
              have hcat : (((rest.map (am_rv ad)).map fun v => v.category).sum) ≤ 8 := by
                rw [hrest, List.map_map]
                have : (List.map ((fun v => v.category) ∘ am_rv ad) (List.drop b S)) = (S.drop b).map fun v => v.category := List.map_congr_left (fun v _ => am_rv_cat ad v)
                rw [this]
                exact k5
              have hA1 : ∀ q, va_A (am_cW G ad h) H.size q → A q := by
                intro q hq
                rcases hq with ⟨k, e0, hq⟩ | hq
                · exact hD.2 k _ hq
                · exact hA q (Nat.le_trans hS.1 hq)
              have hUP : ∀ U : State, U.heap = H → s.WarmedH U.vm → am_Pc G D ad h as H.size ((as.map (am_rv ad)).toArray) U := fun U hU hW => ⟨rfl, by rw [hU], by rw [hU]; exact hP, va_K.moved hW.alike hKs, hD.weaken (fun _ _ _ _ => trivial), am_NW_warm hW hN⟩
              have hwarm : ∀ w ∈ am_TB, ∀ (a' : Array Value) (U : State), s.WarmedH U.vm → w.before a' U = true := fun w hw a' U hW => word_at hW (am_TB_good w hw) (hts w hw)
              have hlwK : am_lw (am_mg d) = false ∧ (vv = .int 0 ∨ vv = .int 1) ∧ b = am_na (am_mg d) := by
                have hkk : am_okc b vv (am_mg d) = true := by
                  rcases hins with ⟨i, rfl, hrc⟩ | ⟨i, rfl⟩ | ⟨i, rfl, hrc⟩
                  · simp only [Bool.and_eq_true] at hok; exact hok.2.1
                  · simp only [Bool.and_eq_true, Bool.or_eq_true] at hok
                    rcases hok.2 with z | z
                    · exfalso
                      have z : 994 < d := Nat.le_of_ble_eq_true z
                      omega
                    · exact z.1
                  · simp only [Bool.and_eq_true, Bool.or_eq_true] at hok
                    rcases hok.2 with z | z
                    · exfalso
                      have z := Nat.eq_of_beq_eq_true z
                      omega
                    · exact z.1
                simp only [am_okc, Bool.and_eq_true, Bool.or_eq_true, decide_eq_true_eq] at hkk
                exact ⟨by simpa using hkk.1.1, hkk.2, Nat.eq_of_beq_eq_true hkk.1.2⟩
              obtain ⟨hlw, hvv, hbn⟩ := hlwK
              have hMet := am_met ih hKm hlw h4 k1 l G D ad H.size
              obtain ⟨⟨wc, wi, wcl, wpl, wne⟩, wk⟩ := (am_mt_ok _ hKm).2.2 hlw
              have wcT := am_TB_of _ wc rfl
              have wiT := am_TB_of _ wi rfl
              have hwsK : ∀ w ∈ am_ws (am_mg d), ∀ (a' : Array Value) (U : State), s.WarmedH U.vm → w.before a' U = true := by
                intro w hw
                rcases List.mem_cons.mp hw with rfl | hw
                · exact hwarm _ wcT
                · exact hwarm _ hw
              have hroom : (am_rm (am_mg d) (hh1.length - h.length) (am_sz hh1 - am_sz h)).frames + 1 ≤ R.frames ∧ 8 + (am_nL (am_mg d) + 11) + (am_rm (am_mg d) (hh1.length - h.length) (am_sz hh1 - am_sz h)).locals ≤ R.locals := ⟨Nat.le_trans k3 hfr, Nat.le_trans k4 hlo⟩
              -- what is left behind any of the calls
              have rest_ok : ∀ (ad' : Nat → Nat) (H1 : Heap) (locs1 : List Loc), (∀ i, i < h.length ∨ hh1.length ≤ i → ad' i = ad i) → va_P D vwCl (am_cW G ad' hh1) H1 → va_D A (am_cW G ad' hh1) → va_S A s.heap H1 locs1 → W p l e R s m args below meth c H1 locs1 (cells + (hh1.length - h.length)) (slots + (am_sz hh1 - am_sz h)) Q (F0 m (pc + 3) ls ((v1.map (am_rv ad')).toList ++ rest.map (am_rv ad))) := by
                intro ad' H1 locs1 hag1 hP1 hD1 hS1
                have hcase : (ad' am_SCR = ad am_SCR) ∧ am_LR ad' L (am_nL M) ls ∧ rest.map (am_rv ad') = rest.map (am_rv ad) := by
                  cases hal : am_al (am_mg d) with
                  | false =>
                    have hl := g1.2.2 hal
                    have : ad' = ad := by
                      funext i
                      exact hag1 i (by omega)
                    subst this
                    exact ⟨rfl, hL, rfl⟩
                  | true =>
                    unfold am_bk at h5
                    rw [hal] at h5
                    simp only [cond_true, Bool.and_eq_true] at h5
                    obtain ⟨b1, b2, b3⟩ := h5
                    have b3 := Nat.le_of_ble_eq_true b3
                    have ee : ∀ i, i < h.length ∨ i = am_SCR → ad' i = ad i := fun i hi => hag1 i (by rcases hi with z | z <;> omega)
                    exact ⟨ee _ (Or.inr rfl), am_LR_ext ee b1 hL, am_map_ext ee b2⟩
                obtain ⟨c1, c2, c3⟩ := hcase
                have hst : (v1.map (am_rv ad')).toList ++ rest.map (am_rv ad) = (v1.toList ++ rest).map (am_rv ad') := by
                  rw [List.map_append, c3]
                  cases v1 <;> rfl
                rw [hst]
                exact ih M p l e R s m args below meth c Q G D A (pc + 3) L (v1.toList ++ rest) hh1 v h' ad' ls H1 locs1 _ _ CF SF n0 ad0 C hr hP1 hD1 hS1 c2 (fun z => by rw [c1]; exact hX z) (by omega) (by omega) hcf hsf (by omega) (fun i hi => (hag1 i (by omega)).trans (hag i (by omega))) hret
              have hfits : cells + (hh1.length - h.length) ≤ R.cells ∧ slots + (am_sz hh1 - am_sz h) ≤ R.slots := ⟨by omega, by omega⟩
              have hfix : CallFix p m c (am_by M) (am_nL M) s args am_TB (am_R (am_cls M)) := ⟨hx, hb, hml, hown, hts⟩
              rw [hS3]
              rcases hins with ⟨i, rfl, hrc⟩ | ⟨i, rfl⟩ | ⟨i, rfl, hrc⟩
              · -- an object's method
                simp only [Bool.and_eq_true, decide_eq_true_eq] at hok
                obtain ⟨o1, o2, o3, o4, o5⟩ := hok
                obtain rfl := Nat.eq_of_beq_eq_true o1
                obtain rfl := o3
                have o4 := Nat.eq_of_beq_eq_true o4
                have o5 : 0 < b := Nat.le_of_ble_eq_true o5
                rw [o4] at wk
                obtain ⟨wm, wsl, wd⟩ := wk
                dsimp only at how
                rw [am_mw_0 hd9] at how
                obtain ⟨o, ci, fs, tl, rfl, ho, hci⟩ := am_rcv_spec hrc
                subst hci
                have hc7 := am_vw_lt hP ho
                have hrecv := va_recv hKs hP (am_cl_at _ hc7) (am_cW_get ho)
                exact am_callG (va_runV (C := am_R (am_cls (am_mg d))) (index := i) (bytes := am_by (am_mg d)) (maxL := am_nL (am_mg d)) (ret := am_rt (am_mg d)) (n := b - 1) (b := ad o) (As := tl.map (am_rv ad)) (rest := rest.map (am_rv ad)) hfix hMet ⟨⟨rfl, rfl, hroom.1, hroom.2, hwsK, List.mem_cons_self, hts _ wcT, hts _ wiT, wne, fun sig hsig => by rw [hsig] at wd; rw [hbn]; exact (Option.some.inj wd).symm, hts _ (am_TB_of t how rfl)⟩, hts _ (am_TB_of _ wm rfl), hts _ (am_TB_of _ wsl rfl)⟩ ⟨am_Pc_blind, hrecv, hUP⟩ rfl (by rw [List.length_map]; simp at hlen; omega) hL.1 (by show _ = _; simp [am_rv]) (lv_room hcat) hdg hfits) hS hA1 rest_ok
              · -- a static method
                simp only [Bool.and_eq_true, Bool.or_eq_true] at hok
                obtain ⟨o1, o2⟩ := hok
                obtain rfl := Nat.eq_of_beq_eq_true o1
                have o3 : Nat.beq (am_kd (am_mg d)) 0 = true := by
                  rcases o2 with z | z
                  · exfalso
                    have z : 994 < d := Nat.le_of_ble_eq_true z
                    omega
                  · exact z.2
                have o3 := Nat.eq_of_beq_eq_true o3
                rw [o3] at wk
                obtain ⟨wm, wd⟩ := wk
                dsimp only at how
                have hdesc : ∀ sig, parseMethodDescriptor (am_y (am_mg d)).desc = some sig → b = sig.parameters.length := fun sig hsig => by rw [hsig] at wd; rw [hbn]; exact (Option.some.inj wd).symm
                rcases hvv with rfl | rfl
                · rw [am_mw_0 hd9] at how
                  exact am_callG (va_runS (index := i) (bytes := am_by (am_mg d)) (maxL := am_nL (am_mg d)) (ret := am_rt (am_mg d)) (n := b) (As := as.map (am_rv ad)) (rest := rest.map (am_rv ad)) hfix hMet ⟨⟨rfl, rfl, hroom.1, hroom.2, hwsK, List.mem_cons_self, hts _ wcT, hts _ wiT, wne, hdesc, hts _ (am_TB_of t how rfl)⟩, hts _ (am_TB_of _ wm rfl)⟩ ⟨am_Pc_blind, hUP⟩ rfl (by rw [List.length_map]; exact hlen) hL.1 rfl (lv_room hcat) hdg hfits) hS hA1 rest_ok
                · rw [am_mw_1 hd9] at how
                  exact am_callG (va_runSN (index := i) (host := RX5) (bytes := am_by (am_mg d)) (maxL := am_nL (am_mg d)) (ret := am_rt (am_mg d)) (n := b) (As := as.map (am_rv ad)) (rest := rest.map (am_rv ad)) hfix hMet ⟨⟨⟨rfl, rfl, hroom.1, hroom.2, hwsK, List.mem_cons_self⟩, hts _ wcT, hts _ wiT, wne, hdesc, va_Nw.use rfl (hN _ _ _ _ (am_tb_in how))⟩, hts _ (am_TB_of _ wm rfl), trivial⟩ ⟨am_Pc_blind, hUP⟩ rfl (by rw [List.length_map]; exact hlen) hL.1 rfl (lv_room hcat) hdg hfits) hS hA1 rest_ok
              · -- a constructor
                simp only [Bool.and_eq_true, Bool.or_eq_true] at hok
                obtain ⟨o1, o2⟩ := hok
                obtain rfl := Nat.eq_of_beq_eq_true o1
                have o3 : Nat.beq (am_kd (am_mg d)) 2 = true ∧ Nat.blt 0 b = true := by
                  rcases o2 with z | z
                  · exfalso
                    have z := Nat.eq_of_beq_eq_true z
                    omega
                  · exact z.2
                have o4 := Nat.eq_of_beq_eq_true o3.1
                have o5 : 0 < b := Nat.le_of_ble_eq_true o3.2
                rw [o4] at wk
                obtain ⟨wm, wnm, wrt, wd⟩ := wk
                dsimp only at how
                obtain ⟨o, ci, fs, tl, rfl, ho, hci⟩ := am_rcv_spec hrc
                have hdesc : ∀ sig, parseMethodDescriptor (am_y (am_mg d)).desc = some sig → b - 1 = sig.parameters.length := fun sig hsig => by rw [hsig] at wd; rw [hbn]; exact (Option.some.inj wd).symm
                have wcN : Cond.code (am_y (am_mg d)) (am_by (am_mg d)) (am_nL (am_mg d)) none ∈ am_ws (am_mg d) := by rw [← wrt]; exact List.mem_cons_self
                have wcB : (Cond.code (am_y (am_mg d)) (am_by (am_mg d)) (am_nL (am_mg d)) none).before args s = true := by rw [← wrt]; exact hts _ wcT
                rcases hvv with rfl | rfl
                · rw [am_mw_0 hd9] at how
                  exact am_callG (va_runI (index := i) (bytes := am_by (am_mg d)) (maxL := am_nL (am_mg d)) (n := b - 1) (b := ad o) (As := tl.map (am_rv ad)) (rest := rest.map (am_rv ad)) hfix hMet ⟨⟨rfl, rfl, hroom.1, hroom.2, hwsK, wcN, wcB, hts _ wiT, wne, hdesc, hts _ (am_TB_of t how rfl)⟩, wnm, hts _ (am_TB_of _ wm rfl)⟩ ⟨am_Pc_blind, hUP⟩ rfl (by rw [List.length_map]; simp at hlen; omega) hL.1 (by show _ = _; simp [am_rv]) (lv_room hcat) hdg hfits) hS hA1 rest_ok
                · rw [am_mw_1 hd9] at how
                  exact am_callG (va_runIN (index := i) (host := RX5) (bytes := am_by (am_mg d)) (maxL := am_nL (am_mg d)) (n := b - 1) (b := ad o) (As := tl.map (am_rv ad)) (rest := rest.map (am_rv ad)) hfix hMet ⟨⟨⟨rfl, rfl, hroom.1, hroom.2, hwsK, wcN⟩, wcB, hts _ wiT, wne, hdesc, va_Nw.use rfl (hN _ _ _ _ (am_tb_in how))⟩, wnm, hts _ (am_TB_of _ wm rfl)⟩ ⟨am_Pc_blind, hUP⟩ rfl (by rw [List.length_map]; simp at hlen; omega) hL.1 (by show _ = _; simp [am_rv]) (lv_room hcat) hdg hfits) hS hA1 rest_ok
end
section
def R_law : String := "PlumbCreedsLaw"
def lw_P (b : Addr) (xs : List Int32) (args : Array Value) (s : State) : Prop := args = #[.ref b] ∧ s.IntsAt b xs ∧ xs.length ≤ 3584 ∧ (Jvm.Cond.and given_1 narrow_1).before args s = true
def lw_Q (_ : Array Value) (s : State) (o : Outcome) (t : State) : Prop := o = .returned (some (.int 1)) ∧ Framed s o t [] 600000 7302250
def lw_Z (below : List Frame) (a : Array Value) (s : State) : State → Prop := fun t => ∃ o, t.status = .running ∧ Ended t below o ∧ lw_Q a s o t
/-- the law's own end, with 1 on the stack, nothing written that was there before, its room as the claim has it -/
theorem lw_ret {p : Program} {l : Launch} {e : Env} {s : State} {m : MethodId} {below : List Frame} {meth : Method} {c : Code} {b : Nat} (hx : p.tables.exec = Jvm.exec) (hb : c.code = code) (hr : meth.sig.returnType = ret) (hlocks : meth.locks = false) {pc : Nat} {H : Heap} {ls : Array Slot} (hdg : decode code pc = .ok (.ireturn, 1)) : W p l e room_1 s m #[Value.ref b] below meth c H [] 600000 7302250 (lw_Z below #[Value.ref b] s) (F0 m pc ls [.int 1]) := by
  intro T hT X
  obtain ⟨fs, hret, hrun, hended, hW, hframe⟩ := X.leave (v := some (.int 1)) (hlocks := hlocks) (fun h => by rw [hr] at h; cases h)
  have hmeth' : T.vm.method? m = some meth := X.method'
  refine ⟨T.setFrames fs, ?_, .returned (some (.int 1)), hrun, hended, rfl, ⟨_, rfl⟩, hW, hframe⟩
  jvm_step X.here [X.here.top, hx, hb, hdg, hmeth', hr, ret, narrow_b1]
  (try refine ⟨rfl, ?_⟩); (try refine ⟨rfl, ?_⟩)
  first | (intro acts; rw [hret _ acts rfl rfl rfl]) | rw [hret _ _ rfl rfl rfl]
  exact Steps.refl _
/-- what holds at the law's entry: the machine, the code, the tables' words (any of lw_tbl by 'hts w (by decide +kernel)'), the script of L ints xs at the cell b, what the Statement gives of the start (any of its parts by flat_of_before) -/
def lw_At (p : Program) (s : State) (m : MethodId) (meth : Method) (c : Code) (b L : Nat) (xs : Nat → Int32) : Prop :=
  p.tables.exec = Jvm.exec ∧ c.code = code ∧ meth.sig.returnType = ret ∧ c.maxLocals = 4 ∧ s.vm.findClass R_law = some m.cls ∧ (∀ w ∈ lw_tbl, w.before #[Value.ref b] s = true) ∧ va_X b L xs s s.heap ∧ b < s.heap.size ∧ meth.locks = false ∧ (Jvm.Cond.and given_1 narrow_1).before #[Value.ref b] s = true
set_option maxRecDepth 100000 in
set_option maxHeartbeats 4000000 in
/-- the law's walk, out of a run of the small machine -/
theorem am_whole {p : Program} {e : Env} {s : State} {m : MethodId} {below : List Frame} {meth : Method} {c : Code} (l : Launch) {b L : Nat} {xs : Nat → Int32} (C0 : lw_At p s m meth c b L xs) {n : Nat} {h' : List AMc} (hrun : am_run (L, xs) n AM_L_law 0 (am_ent AM_L_law [.ref am_SCR]) [] [] = some (some (.int 1), h')) (hz1 : h'.length ≤ 600000) (hz2 : am_sz h' ≤ 7302250) : W p l e room_1 s m #[Value.ref b] below meth c s.heap [] 0 0 (lw_Z below #[Value.ref b] s) (entryFrame m ([Value.ref b] : List Value).toArray 4) := by
  obtain ⟨hx, hb, hr, hml, hown, hts, hX, hbl, hlocks, hgv⟩ := id C0
  have htsT : ∀ w ∈ am_TB, w.before #[Value.ref b] s = true := fun w hw => hts w (List.mem_filter.mp hw).1
  have hk : ∀ c, ∃ (cC : ClassId) (iS : Nat → Nat), c < 7 → u_Kn s (am_R c) (am_T c) (am_N c) cC iS := by
    intro c
    by_cases hc : c < 7
    · obtain ⟨cC, iS, h⟩ := u_known htsT (am_cl_in c hc) (htsT _ (am_cl_new c hc).1)
      exact ⟨cC, iS, fun _ => h⟩
    · exact ⟨0, fun _ => 0, fun h => absurd h hc⟩
  have hKn : ∀ (k : Nat) (q : vw_C), vwCl[k]? = some q → u_Kn s q.1 q.2.1 q.2.2 ((fun c => (hk c).choose) k) ((fun c => (hk c).choose_spec.choose) k) := by
    intro k q hq
    have hk7 : k < 7 := (List.getElem?_eq_some_iff.mp hq).1
    rw [am_cl_at k hk7] at hq
    cases hq
    exact (hk k).choose_spec.choose_spec hk7
  obtain ⟨cI, kI, compI, i1, i2, i3⟩ := Cond.arrayClass_spec (htsT _ am_new_w.2.2.1)
  obtain ⟨cZ, kZ, compZ, j1, j2, j3⟩ := Cond.arrayClass_spec (htsT _ am_new_w.2.2.2)
  have hK : va_K ((fun c => (hk c).choose), (fun c => (hk c).choose_spec.choose)) vwCl [(cI, .int), (cZ, .boolean)] s := by
    refine ⟨hKn, fun k q hq => ?_⟩
    match k, hq with
    | 0, hq => cases hq; exact ⟨fun n z => ⟨fun k h => (by cases h), kI, i2, compI, i3⟩, i1⟩
    | 1, hq => cases hq; exact ⟨fun n z => ⟨fun k h => (by cases h), kZ, j2, compZ, j3⟩, j1⟩
    | k + 2, hq => simp at hq
  have hN : am_NW s := fun own idx x host hw => va_Nw.of rfl (hts _ hw)
  have hM : AM_L_law ∈ am_mt := List.mem_of_getElem? (i := 153) rfl
  have hCx : am_Cx AM_L_law p room_1 s m #[Value.ref b] meth c (fun q : Nat => s.heap.size ≤ q) (cI, cZ) ((fun c => (hk c).choose), (fun c => (hk c).choose_spec.choose)) := ⟨hM, hx, hb, hml, hr, hlocks, hown, htsT, fun z => absurd z (by decide), fun _ h => h, hK, hN, Nat.le_of_ble_eq_true rfl, Nat.le_of_ble_eq_true rfl⟩
  rw [lg_entry_eq]
  have hL := am_LR_ent (ad := fun _ => b) (M := AM_L_law) (as := [.ref am_SCR]) (Nat.le_of_ble_eq_true rfl)
  refine am_all (L, xs) n AM_L_law p l e room_1 s m #[Value.ref b] below meth c _ (cI, cZ) _ (fun q : Nat => s.heap.size ≤ q) 0 (am_ent AM_L_law [.ref am_SCR]) [] [] (some (.int 1)) h' (fun _ => b) _ s.heap [] 0 0 h'.length (am_sz h') 0 (fun _ => b) hCx hrun (fun k q h => by simp [am_cW] at h) ⟨fun i j p q h => by simp [am_cW] at h, fun k q h => by simp [am_cW] at h⟩ va_S.rf hL (fun _ => ⟨hX, hbl, Nat.not_le.mpr hbl⟩) (by simp) (by simp [am_sz]) hz1 hz2 (Nat.le_refl _) (fun _ _ => rfl) ?_
  intro pcr lsr Sr H1 locs1 ad1 hret hP1 hD1 hS1 _
  have hrt : am_rt AM_L_law = some .boolean := rfl
  rcases am_ret_row hret hM with ⟨x, rfl, h, hv, hdg⟩ | ⟨x, rfl, h, h01, hv, hdg⟩ | ⟨x, rfl, h, hv, hdg⟩ | ⟨x, C, rfl, h, hv, hdg⟩ | ⟨rfl, h, hv, hdg⟩
  · rw [hrt] at h; cases h
  · cases hv
    exact va_forget hS1.2.2 (W.widen hz1 hz2 (lw_ret hx hb hr hlocks hdg))
  · rw [hrt] at h; cases h
  · rw [hrt] at h; cases h
  · rw [hrt] at h; cases h
end
section
/-- the cells of both: the class (0 to 87), the reference (88 to 102); R, A: rows; Z, Y: numbers -/
def am_WH (R : Nat → Nat → Int32) (Z : Nat → Int32) (A : Nat → Nat → Int32) (Y : Nat → Int32) : List AMc := [.inr (5, [.ref 1, .ref 20, .ref 23, .ref 43, .ref 50, .ref 69, .int (Z 37)]), .inr (4, [.ref 2, .int (Z 0), .int (Z 1), .ref 4, .ref 6, .ref 8, .int (Z 2), .ref 10, .ref 12, .int (Z 3), .ref 14, .ref 16, .ref 18, .int (Z 4), .int (Z 5), .int (Z 6)]), .inr (1, [.ref 3]), .inl (0, 3, R 0), .inr (1, [.ref 5]), .inl (0, 7, R 1), .inr (1, [.ref 7]), .inl (0, 7, R 2), .inr (1, [.ref 9]), .inl (0, 7, R 3), .inr (1, [.ref 11]), .inl (0, 8, R 4), .inr (1, [.ref 13]), .inl (0, 8, R 5), .inr (1, [.ref 15]), .inl (0, 12, R 6), .inr (1, [.ref 17]), .inl (0, 12, R 7), .inr (1, [.ref 19]), .inl (0, 12, R 8), .inr (0, [.ref 21, .int (Z 28)]), .inr (1, [.ref 22]), .inl (0, 60, R 36), .inr (3, [.ref 24, .int (Z 29), .int (Z 30), .int (Z 31), .int (Z 32), .int (Z 33), .int (Z 34)]), .inr (4, [.ref 25, .int (Z 7), .int (Z 8), .ref 27, .ref 29, .ref 31, .int (Z 9), .ref 33, .ref 35, .int (Z 10), .ref 37, .ref 39, .ref 41, .int (Z 11), .int (Z 12), .int (Z 13)]), .inr (1, [.ref 26]), .inl (0, 3, R 9), .inr (1, [.ref 28]), .inl (0, 7, R 10), .inr (1, [.ref 30]), .inl (0, 7, R 11), .inr (1, [.ref 32]), .inl (0, 7, R 12), .inr (1, [.ref 34]), .inl (0, 8, R 13), .inr (1, [.ref 36]), .inl (0, 8, R 14), .inr (1, [.ref 38]), .inl (0, 12, R 15), .inr (1, [.ref 40]), .inl (0, 12, R 16), .inr (1, [.ref 42]), .inl (0, 12, R 17), .inr (2, [.ref 44, .ref 46, .ref 48, .int (Z 35), .int (Z 36)]), .inr (1, [.ref 45]), .inl (0, 7, R 37), .inr (1, [.ref 47]), .inl (0, 7, R 38), .inr (1, [.ref 49]), .inl (0, 2188, R 39), .inr (4, [.ref 51, .int (Z 14), .int (Z 15), .ref 53, .ref 55, .ref 57, .int (Z 16), .ref 59, .ref 61, .int (Z 17), .ref 63, .ref 65, .ref 67, .int (Z 18), .int (Z 19), .int (Z 20)]), .inr (1, [.ref 52]), .inl (0, 3, R 18), .inr (1, [.ref 54]), .inl (0, 7, R 19), .inr (1, [.ref 56]), .inl (0, 7, R 20), .inr (1, [.ref 58]), .inl (0, 7, R 21), .inr (1, [.ref 60]), .inl (0, 8, R 22), .inr (1, [.ref 62]), .inl (0, 8, R 23), .inr (1, [.ref 64]), .inl (0, 12, R 24), .inr (1, [.ref 66]), .inl (0, 12, R 25), .inr (1, [.ref 68]), .inl (0, 12, R 26), .inr (4, [.ref 70, .int (Z 21), .int (Z 22), .ref 72, .ref 74, .ref 76, .int (Z 23), .ref 78, .ref 80, .int (Z 24), .ref 82, .ref 84, .ref 86, .int (Z 25), .int (Z 26), .int (Z 27)]), .inr (1, [.ref 71]), .inl (0, 3, R 27), .inr (1, [.ref 73]), .inl (0, 7, R 28), .inr (1, [.ref 75]), .inl (0, 7, R 29), .inr (1, [.ref 77]), .inl (0, 7, R 30), .inr (1, [.ref 79]), .inl (0, 8, R 31), .inr (1, [.ref 81]), .inl (0, 8, R 32), .inr (1, [.ref 83]), .inl (0, 12, R 33), .inr (1, [.ref 85]), .inl (0, 12, R 34), .inr (1, [.ref 87]), .inl (0, 12, R 35), .inr (6, [.ref 89, .ref 90, .int (Y 0), .ref 91, .int (Y 1), .ref 92, .int (Y 2), .ref 93, .ref 94, .ref 95, .int (Y 3), .ref 96, .int (Y 4), .ref 97, .int (Y 5), .int (Y 6), .int (Y 7), .int (Y 8), .int (Y 9), .ref 98, .ref 99, .ref 100, .ref 101, .ref 102]), .inl (0, 32, A 0), .inl (0, 32, A 1), .inl (0, 3, A 2), .inl (0, 7, A 3), .inl (0, 12, A 4), .inl (0, 12, A 5), .inl (0, 12, A 6), .inl (0, 16, A 7), .inl (0, 60, A 8), .inl (0, 10, A 9), .inl (0, 3, A 10), .inl (0, 2187, A 11), .inl (0, 220, A 12), .inl (1, 2, A 13)]
/-! Rows: what get, set and copyFrom do, of any row of any heap. -/
def am_rg (n : Nat) (f : Nat → Int32) (i : Int32) : Int32 := if 0 ≤ i ∧ i < Int32.ofNat n then f i.toNatClampNeg else 0
def am_rs (n : Nat) (f : Nat → Int32) (i x : Int32) : Nat → Int32 := if 0 ≤ i ∧ i < Int32.ofNat n then upd f i.toNatClampNeg x else f
def am_rc (n : Nat) (f g : Nat → Int32) : Nat → Int32 := fun j => if j < n then g j else f j
theorem am_in_row {i : Int32} {n : Nat} (h0 : ¬ i < 0) (h1 : ¬ Int32.ofNat n ≤ i) (hn : n < 2 ^ 31) : am_in i n := by
  obtain ⟨j, hj, rfl⟩ := nI_of h0
  have h2 : ¬ nI n ≤ nI j := h1
  rw [nI_leI hn hj] at h2
  exact ⟨by rw [nI_toInt hj]; omega, by rw [nI_toInt hj]; omega⟩
theorem am_rg_of {i : Int32} {n : Nat} {f : Nat → Int32} (h0 : ¬ i < 0) (h1 : ¬ Int32.ofNat n ≤ i) : am_rg n f i = f i.toNatClampNeg := if_pos ⟨Int32.not_lt.mp h0, Int32.not_le.mp h1⟩
theorem am_rs_of {i x : Int32} {n : Nat} {f : Nat → Int32} (h0 : ¬ i < 0) (h1 : ¬ Int32.ofNat n ≤ i) : am_rs n f i x = upd f i.toNatClampNeg x := if_pos ⟨Int32.not_lt.mp h0, Int32.not_le.mp h1⟩
theorem am_E_getf {X : AMx} {M : AMinfo} {pc len a b t idx o ci : Nat} {v w : Value} {tab : List (Int32 × Nat)} {L : AMl} {r fs : List Value} {h : List AMc} (hf : am_fnd (am_rows M) pc = some (.getfield idx, len, a, b, v, tab, t)) (h1 : h[o]? = some (.inr (ci, fs))) (hc : Nat.beq ci a = true) (h2 : fs[b]? = some w) : am_E X M pc L (.ref o :: r) h = am_E X M (pc + len) L (w :: r) h := by
  have e : am_stp X M pc L (.ref o :: r) h = some (pc + len, L, w :: r, h) := by
    unfold am_stp
    rw [hf]
    dsimp only
    rw [h1]
    dsimp only
    rw [hc, h2]
    rfl
  exact am_E_step e
theorem am_E_alen {X : AMx} {M : AMinfo} {pc len a b t o tg n : Nat} {v : Value} {tab : List (Int32 × Nat)} {L : AMl} {r : List Value} {h : List AMc} {f : Nat → Int32} (hf : am_fnd (am_rows M) pc = some (.arraylength, len, a, b, v, tab, t)) (h1 : h[o]? = some (.inl (tg, n, f))) (hq : Nat.beq o am_SCR = false) : am_E X M pc L (.ref o :: r) h = am_E X M (pc + len) L (.int (Int32.ofNat n) :: r) h := by
  have e : am_stp X M pc L (.ref o :: r) h = some (pc + len, L, .int (Int32.ofNat n) :: r, h) := by
    unfold am_stp
    rw [hf]
    dsimp only
    rw [hq]
    dsimp only [cond_false]
    rw [h1]
  exact am_E_step e
theorem am_E_ald {X : AMx} {M : AMinfo} {pc len a b t o n : Nat} {v : Value} {tab : List (Int32 × Nat)} {L : AMl} {r : List Value} {h : List AMc} {f : Nat → Int32} {i : Int32} (hf : am_fnd (am_rows M) pc = some (.iaload, len, a, b, v, tab, t)) (h1 : h[o]? = some (.inl (0, n, f))) (hq : Nat.beq o am_SCR = false) (hi : am_in i n) : am_E X M pc L (.int i :: .ref o :: r) h = am_E X M (pc + len) L (.int (f i.toNatClampNeg) :: r) h := by
  have e : am_stp X M pc L (.int i :: .ref o :: r) h = some (pc + len, L, .int (f i.toNatClampNeg) :: r, h) := by
    unfold am_stp
    rw [hf]
    dsimp only
    rw [hq]
    dsimp only [cond_false]
    rw [h1]
    exact if_pos hi
  exact am_E_step e
theorem am_E_ast {X : AMx} {M : AMinfo} {pc len a b t o n : Nat} {v : Value} {tab : List (Int32 × Nat)} {L : AMl} {r : List Value} {h : List AMc} {f : Nat → Int32} {i x : Int32} (hf : am_fnd (am_rows M) pc = some (.iastore, len, a, b, v, tab, t)) (h1 : h[o]? = some (.inl (0, n, f))) (hi : am_in i n) : am_E X M pc L (.int x :: .int i :: .ref o :: r) h = am_E X M (pc + len) L r (h.set o (.inl (0, n, upd f i.toNatClampNeg x))) := by
  have e : am_stp X M pc L (.int x :: .int i :: .ref o :: r) h = some (pc + len, L, r, h.set o (.inl (0, n, upd f i.toNatClampNeg x))) := by
    unfold am_stp
    rw [hf]
    dsimp only
    rw [h1]
    exact if_pos hi
  exact am_E_step e
theorem am_row_get {X : AMx} {h : List AMc} {r q n : Nat} {f : Nat → Int32} {i : Int32} (h1 : h[r]? = some (.inr (1, [.ref q]))) (h2 : h[q]? = some (.inl (0, n, f))) (hn : n < 2 ^ 31) (hq : Nat.beq q am_SCR = false) : am_D X 11 [.ref r, .int i] h = some (some (.int (am_rg n f i)), h) := by
  show am_E X AM_X1_get 0 [some (.ref r), some (.int i)] [] h = _
  rw [am_E_br (c := i < 0) (p := 22) (q := 4) (L' := [some (.ref r), some (.int i)]) (S' := []) (h' := h) 2 rfl]
  have z22 : am_E X AM_X1_get 22 [some (.ref r), some (.int i)] [] h = some (some (.int 0), h) := am_E_ret (p := 23) (L1 := [some (.ref r), some (.int i)]) (S1 := [.int 0]) (h1 := h) 1 rfl rfl rfl
  by_cases c0 : i < 0
  · rw [if_pos c0, z22]
    unfold am_rg
    rw [if_neg (fun z => Int32.not_lt.mpr z.1 c0)]
  · rw [if_neg c0, am_E_n (pc' := 6) (L' := [some (.ref r), some (.int i)]) (S' := [.ref r, .int i]) (h' := h) 2 rfl, am_E_getf rfl h1 rfl rfl, am_E_alen rfl h2 hq]
    rw [am_E_br (c := Int32.ofNat n ≤ i) (p := 22) (q := 13) (L' := [some (.ref r), some (.int i)]) (S' := []) (h' := h) 1 rfl]
    by_cases c1 : Int32.ofNat n ≤ i
    · rw [if_pos c1, z22]
      unfold am_rg
      rw [if_neg (fun z => Int32.not_lt.mpr c1 z.2)]
    · rw [if_neg c1, am_rg_of c0 c1, am_E_n (pc' := 14) (L' := [some (.ref r), some (.int i)]) (S' := [.ref r]) (h' := h) 1 rfl, am_E_getf rfl h1 rfl rfl]
      rw [am_E_n (pc' := 18) (L' := [some (.ref r), some (.int i)]) (S' := [.int i, .ref q]) (h' := h) 1 rfl, am_E_ald rfl h2 hq (am_in_row c0 c1 hn)]
      exact am_E_ret (p := 23) (L1 := [some (.ref r), some (.int i)]) (S1 := [.int (f i.toNatClampNeg)]) (h1 := h) 1 rfl rfl rfl
theorem am_row_set {X : AMx} {h : List AMc} {r q n : Nat} {f : Nat → Int32} {i x : Int32} (h1 : h[r]? = some (.inr (1, [.ref q]))) (h2 : h[q]? = some (.inl (0, n, f))) (hn : n < 2 ^ 31) (hq : Nat.beq q am_SCR = false) : am_D X 12 [.ref r, .int i, .int x] h = some (none, h.set q (.inl (0, n, am_rs n f i x))) := by
  show am_E X AM_X1_set 0 [some (.ref r), some (.int i), some (.int x)] [] h = _
  rw [am_E_br (c := i < 0) (p := 20) (q := 4) (L' := [some (.ref r), some (.int i), some (.int x)]) (S' := []) (h' := h) 2 rfl]
  have hs : h.set q (.inl (0, n, f)) = h := by
    obtain ⟨hl, hv⟩ := List.getElem?_eq_some_iff.mp h2
    rw [← hv]
    exact List.set_getElem_self hl
  have z20 : ∀ h', am_E X AM_X1_set 20 [some (.ref r), some (.int i), some (.int x)] [] h' = some (none, h') := fun h' => am_E_ret (p := 20) (L1 := [some (.ref r), some (.int i), some (.int x)]) (S1 := []) (h1 := h') 0 rfl rfl rfl
  by_cases c0 : i < 0
  · rw [if_pos c0, z20]
    unfold am_rs
    rw [if_neg (fun z => Int32.not_lt.mpr z.1 c0), hs]
  · rw [if_neg c0, am_E_n (pc' := 6) (L' := [some (.ref r), some (.int i), some (.int x)]) (S' := [.ref r, .int i]) (h' := h) 2 rfl, am_E_getf rfl h1 rfl rfl, am_E_alen rfl h2 hq]
    rw [am_E_br (c := Int32.ofNat n ≤ i) (p := 20) (q := 13) (L' := [some (.ref r), some (.int i), some (.int x)]) (S' := []) (h' := h) 1 rfl]
    by_cases c1 : Int32.ofNat n ≤ i
    · rw [if_pos c1, z20]
      unfold am_rs
      rw [if_neg (fun z => Int32.not_lt.mpr c1 z.2), hs]
    · rw [if_neg c1, am_rs_of c0 c1, am_E_n (pc' := 14) (L' := [some (.ref r), some (.int i), some (.int x)]) (S' := [.ref r]) (h' := h) 1 rfl, am_E_getf rfl h1 rfl rfl]
      rw [am_E_n (pc' := 19) (L' := [some (.ref r), some (.int i), some (.int x)]) (S' := [.int x, .int i, .ref q]) (h' := h) 2 rfl, am_E_ast rfl h2 (am_in_row c0 c1 hn)]
      exact z20 _
theorem am_rc_0 (f g : Nat → Int32) : am_rc 0 f g = f := by funext j; simp [am_rc]
theorem am_rc_s (k : Nat) (f g : Nat → Int32) : upd (am_rc k f g) k (g k) = am_rc (k + 1) f g := by
  funext j
  unfold am_rc upd
  by_cases h1 : j = k
  · subst h1; simp
  · by_cases h2 : j < k
    · simp [h1, h2, Nat.lt_succ_of_lt h2]
    · have : ¬ j < k + 1 := by omega
      simp [h1, h2, this]
theorem am_row_copy {X : AMx} {h : List AMc} {r q n r2 q2 : Nat} {f g : Nat → Int32} (h1 : h[r]? = some (.inr (1, [.ref q]))) (h2 : h[q]? = some (.inl (0, n, f))) (h3 : h[r2]? = some (.inr (1, [.ref q2]))) (h4 : h[q2]? = some (.inl (0, n, g))) (hn : n < 2 ^ 31) (hne : q ≠ q2) (hq : Nat.beq q am_SCR = false) (hq2 : Nat.beq q2 am_SCR = false) : am_D X 13 [.ref r, .ref r2] h = some (none, h.set q (.inl (0, n, am_rc n f g))) := by
  show am_E X AM_X1_copyFrom 0 [some (.ref r), some (.ref r2), none] [] h = _
  rw [am_E_n (pc' := 2) (L' := [some (.ref r), some (.ref r2), some (.int 0)]) (S' := []) (h' := h) 2 rfl]
  have hl : q < h.length := (List.getElem?_eq_some_iff.mp h2).1
  have hr : q ≠ r := fun z => by rw [z, h1] at h2; cases h2
  have hr2 : q ≠ r2 := fun z => by rw [z, h3] at h2; cases h2
  have key : ∀ d k, k + d = n → am_E X AM_X1_copyFrom 2 [some (.ref r), some (.ref r2), some (.int (nI k))] [] (h.set q (.inl (0, n, am_rc k f g))) = some (none, h.set q (.inl (0, n, am_rc n f g))) := by
    intro d
    induction d with
    | zero =>
      intro k hk
      have hk : k = n := by omega
      subst hk
      have g1 : (h.set q (.inl (0, k, am_rc k f g)))[r]? = some (.inr (1, [.ref q])) := by rw [List.getElem?_set_ne hr]; exact h1
      have g2 : (h.set q (.inl (0, k, am_rc k f g)))[q]? = some (.inl (0, k, am_rc k f g)) := by rw [List.getElem?_set_self hl]
      rw [am_E_n (pc' := 4) (L' := [some (.ref r), some (.ref r2), some (.int (nI k))]) (S' := [.ref r, .int (nI k)]) (h' := h.set q (.inl (0, k, am_rc k f g))) 2 rfl, am_E_getf rfl g1 rfl rfl, am_E_alen rfl g2 hq]
      rw [am_E_br (c := Int32.ofNat k ≤ nI k) (p := 28) (q := 11) (L' := [some (.ref r), some (.ref r2), some (.int (nI k))]) (S' := []) (h' := h.set q (.inl (0, k, am_rc k f g))) 1 rfl, if_pos (show Int32.ofNat k ≤ nI k from Int32.le_refl _)]
      exact am_E_ret (p := 28) (L1 := [some (.ref r), some (.ref r2), some (.int (nI k))]) (S1 := []) (h1 := h.set q (.inl (0, k, am_rc k f g))) 0 rfl rfl rfl
    | succ d ih =>
      intro k hk
      have g1 : (h.set q (.inl (0, n, am_rc k f g)))[r]? = some (.inr (1, [.ref q])) := by rw [List.getElem?_set_ne hr]; exact h1
      have g2 : (h.set q (.inl (0, n, am_rc k f g)))[q]? = some (.inl (0, n, am_rc k f g)) := by rw [List.getElem?_set_self hl]
      have g3 : (h.set q (.inl (0, n, am_rc k f g)))[r2]? = some (.inr (1, [.ref q2])) := by rw [List.getElem?_set_ne hr2]; exact h3
      have g4 : (h.set q (.inl (0, n, am_rc k f g)))[q2]? = some (.inl (0, n, g)) := by rw [List.getElem?_set_ne hne]; exact h4
      have c0 : ¬ nI k < 0 := nI_pos (by omega)
      have c1 : ¬ Int32.ofNat n ≤ nI k := nI_ge (by omega) hn
      have hcl : (nI k).toNatClampNeg = k := nI_clamp (by omega)
      rw [am_E_n (pc' := 4) (L' := [some (.ref r), some (.ref r2), some (.int (nI k))]) (S' := [.ref r, .int (nI k)]) (h' := h.set q (.inl (0, n, am_rc k f g))) 2 rfl, am_E_getf rfl g1 rfl rfl, am_E_alen rfl g2 hq]
      rw [am_E_br (c := Int32.ofNat n ≤ nI k) (p := 28) (q := 11) (L' := [some (.ref r), some (.ref r2), some (.int (nI k))]) (S' := []) (h' := h.set q (.inl (0, n, am_rc k f g))) 1 rfl, if_neg c1]
      rw [am_E_n (pc' := 12) (L' := [some (.ref r), some (.ref r2), some (.int (nI k))]) (S' := [.ref r]) (h' := h.set q (.inl (0, n, am_rc k f g))) 1 rfl, am_E_getf rfl g1 rfl rfl]
      have hcal : am_cal AM_X1_copyFrom 18 [.int (nI k), .ref r2, .int (nI k), .ref q] (h.set q (.inl (0, n, am_rc k f g))) = some (11, [.ref r2, .int (nI k)], [.int (nI k), .ref q]) := by
        have hrc : am_rcv (am_mg 11) (h.set q (.inl (0, n, am_rc k f g))) [.ref r2, .int (nI k)] = true := by
          unfold am_rcv
          dsimp only
          rw [g3]
          rfl
        show (bif true && am_rcv (am_mg 11) (h.set q (.inl (0, n, am_rc k f g))) [.ref r2, .int (nI k)] then some (11, ([.ref r2, .int (nI k)] : List Value), ([.int (nI k), .ref q] : List Value)) else none) = _
        rw [hrc]
        rfl
      rw [am_E_call (p := 18) (L1 := [some (.ref r), some (.ref r2), some (.int (nI k))]) (S1 := [.int (nI k), .ref r2, .int (nI k), .ref q]) (h1 := h.set q (.inl (0, n, am_rc k f g))) 3 rfl rfl rfl hcal rfl, am_row_get g3 g4 hn hq2, am_C_v, am_rg_of c0 c1, am_E_ast rfl g2 (am_in_row c0 c1 hn), hcl, List.set_set, am_rc_s]
      rw [am_E_n (pc' := 2) (L' := [some (.ref r), some (.ref r2), some (.int (nI k + 1))]) (S' := []) (h' := h.set q (.inl (0, n, am_rc (k + 1) f g))) 2 rfl, ← nI_succ]
      exact ih (k + 1) (by omega)
  have h0 := key n 0 (by omega)
  rw [am_rc_0] at h0
  have hs : h.set q (.inl (0, n, f)) = h := by
    obtain ⟨hl, hv⟩ := List.getElem?_eq_some_iff.mp h2
    rw [← hv]
    exact List.set_getElem_self hl
  rw [hs] at h0
  exact h0
theorem d_X1_copyFrom_2_25 (X : AMx) (R : Nat → Nat → Int32) (Z : Nat → Int32) (A : Nat → Nat → Int32) (Y : Nat → Int32) : am_D X 13 [.ref 2, .ref 25] (am_WH R Z A Y) = some (none, am_WH (am_up R 0 (am_rc 3 (R 0) (R 9))) Z A Y) := (am_row_copy (q := 3) (n := 3) (f := R 0) (q2 := 26) (g := R 9) rfl rfl rfl rfl (by decide) (by decide) rfl rfl).trans rfl
theorem d_X1_copyFrom_2_51 (X : AMx) (R : Nat → Nat → Int32) (Z : Nat → Int32) (A : Nat → Nat → Int32) (Y : Nat → Int32) : am_D X 13 [.ref 2, .ref 51] (am_WH R Z A Y) = some (none, am_WH (am_up R 0 (am_rc 3 (R 0) (R 18))) Z A Y) := (am_row_copy (q := 3) (n := 3) (f := R 0) (q2 := 52) (g := R 18) rfl rfl rfl rfl (by decide) (by decide) rfl rfl).trans rfl
theorem d_X1_copyFrom_2_70 (X : AMx) (R : Nat → Nat → Int32) (Z : Nat → Int32) (A : Nat → Nat → Int32) (Y : Nat → Int32) : am_D X 13 [.ref 2, .ref 70] (am_WH R Z A Y) = some (none, am_WH (am_up R 0 (am_rc 3 (R 0) (R 27))) Z A Y) := (am_row_copy (q := 3) (n := 3) (f := R 0) (q2 := 71) (g := R 27) rfl rfl rfl rfl (by decide) (by decide) rfl rfl).trans rfl
theorem d_X1_copyFrom_4_27 (X : AMx) (R : Nat → Nat → Int32) (Z : Nat → Int32) (A : Nat → Nat → Int32) (Y : Nat → Int32) : am_D X 13 [.ref 4, .ref 27] (am_WH R Z A Y) = some (none, am_WH (am_up R 1 (am_rc 7 (R 1) (R 10))) Z A Y) := (am_row_copy (q := 5) (n := 7) (f := R 1) (q2 := 28) (g := R 10) rfl rfl rfl rfl (by decide) (by decide) rfl rfl).trans rfl
theorem d_X1_copyFrom_4_53 (X : AMx) (R : Nat → Nat → Int32) (Z : Nat → Int32) (A : Nat → Nat → Int32) (Y : Nat → Int32) : am_D X 13 [.ref 4, .ref 53] (am_WH R Z A Y) = some (none, am_WH (am_up R 1 (am_rc 7 (R 1) (R 19))) Z A Y) := (am_row_copy (q := 5) (n := 7) (f := R 1) (q2 := 54) (g := R 19) rfl rfl rfl rfl (by decide) (by decide) rfl rfl).trans rfl
theorem d_X1_copyFrom_4_72 (X : AMx) (R : Nat → Nat → Int32) (Z : Nat → Int32) (A : Nat → Nat → Int32) (Y : Nat → Int32) : am_D X 13 [.ref 4, .ref 72] (am_WH R Z A Y) = some (none, am_WH (am_up R 1 (am_rc 7 (R 1) (R 28))) Z A Y) := (am_row_copy (q := 5) (n := 7) (f := R 1) (q2 := 73) (g := R 28) rfl rfl rfl rfl (by decide) (by decide) rfl rfl).trans rfl
theorem d_X1_copyFrom_6_29 (X : AMx) (R : Nat → Nat → Int32) (Z : Nat → Int32) (A : Nat → Nat → Int32) (Y : Nat → Int32) : am_D X 13 [.ref 6, .ref 29] (am_WH R Z A Y) = some (none, am_WH (am_up R 2 (am_rc 7 (R 2) (R 11))) Z A Y) := (am_row_copy (q := 7) (n := 7) (f := R 2) (q2 := 30) (g := R 11) rfl rfl rfl rfl (by decide) (by decide) rfl rfl).trans rfl
theorem d_X1_copyFrom_6_55 (X : AMx) (R : Nat → Nat → Int32) (Z : Nat → Int32) (A : Nat → Nat → Int32) (Y : Nat → Int32) : am_D X 13 [.ref 6, .ref 55] (am_WH R Z A Y) = some (none, am_WH (am_up R 2 (am_rc 7 (R 2) (R 20))) Z A Y) := (am_row_copy (q := 7) (n := 7) (f := R 2) (q2 := 56) (g := R 20) rfl rfl rfl rfl (by decide) (by decide) rfl rfl).trans rfl
theorem d_X1_copyFrom_6_74 (X : AMx) (R : Nat → Nat → Int32) (Z : Nat → Int32) (A : Nat → Nat → Int32) (Y : Nat → Int32) : am_D X 13 [.ref 6, .ref 74] (am_WH R Z A Y) = some (none, am_WH (am_up R 2 (am_rc 7 (R 2) (R 29))) Z A Y) := (am_row_copy (q := 7) (n := 7) (f := R 2) (q2 := 75) (g := R 29) rfl rfl rfl rfl (by decide) (by decide) rfl rfl).trans rfl
theorem d_X1_copyFrom_8_31 (X : AMx) (R : Nat → Nat → Int32) (Z : Nat → Int32) (A : Nat → Nat → Int32) (Y : Nat → Int32) : am_D X 13 [.ref 8, .ref 31] (am_WH R Z A Y) = some (none, am_WH (am_up R 3 (am_rc 7 (R 3) (R 12))) Z A Y) := (am_row_copy (q := 9) (n := 7) (f := R 3) (q2 := 32) (g := R 12) rfl rfl rfl rfl (by decide) (by decide) rfl rfl).trans rfl
theorem d_X1_copyFrom_8_57 (X : AMx) (R : Nat → Nat → Int32) (Z : Nat → Int32) (A : Nat → Nat → Int32) (Y : Nat → Int32) : am_D X 13 [.ref 8, .ref 57] (am_WH R Z A Y) = some (none, am_WH (am_up R 3 (am_rc 7 (R 3) (R 21))) Z A Y) := (am_row_copy (q := 9) (n := 7) (f := R 3) (q2 := 58) (g := R 21) rfl rfl rfl rfl (by decide) (by decide) rfl rfl).trans rfl
theorem d_X1_copyFrom_8_76 (X : AMx) (R : Nat → Nat → Int32) (Z : Nat → Int32) (A : Nat → Nat → Int32) (Y : Nat → Int32) : am_D X 13 [.ref 8, .ref 76] (am_WH R Z A Y) = some (none, am_WH (am_up R 3 (am_rc 7 (R 3) (R 30))) Z A Y) := (am_row_copy (q := 9) (n := 7) (f := R 3) (q2 := 77) (g := R 30) rfl rfl rfl rfl (by decide) (by decide) rfl rfl).trans rfl
theorem d_X1_copyFrom_10_33 (X : AMx) (R : Nat → Nat → Int32) (Z : Nat → Int32) (A : Nat → Nat → Int32) (Y : Nat → Int32) : am_D X 13 [.ref 10, .ref 33] (am_WH R Z A Y) = some (none, am_WH (am_up R 4 (am_rc 8 (R 4) (R 13))) Z A Y) := (am_row_copy (q := 11) (n := 8) (f := R 4) (q2 := 34) (g := R 13) rfl rfl rfl rfl (by decide) (by decide) rfl rfl).trans rfl
theorem d_X1_copyFrom_10_59 (X : AMx) (R : Nat → Nat → Int32) (Z : Nat → Int32) (A : Nat → Nat → Int32) (Y : Nat → Int32) : am_D X 13 [.ref 10, .ref 59] (am_WH R Z A Y) = some (none, am_WH (am_up R 4 (am_rc 8 (R 4) (R 22))) Z A Y) := (am_row_copy (q := 11) (n := 8) (f := R 4) (q2 := 60) (g := R 22) rfl rfl rfl rfl (by decide) (by decide) rfl rfl).trans rfl
theorem d_X1_copyFrom_10_78 (X : AMx) (R : Nat → Nat → Int32) (Z : Nat → Int32) (A : Nat → Nat → Int32) (Y : Nat → Int32) : am_D X 13 [.ref 10, .ref 78] (am_WH R Z A Y) = some (none, am_WH (am_up R 4 (am_rc 8 (R 4) (R 31))) Z A Y) := (am_row_copy (q := 11) (n := 8) (f := R 4) (q2 := 79) (g := R 31) rfl rfl rfl rfl (by decide) (by decide) rfl rfl).trans rfl
theorem d_X1_copyFrom_12_35 (X : AMx) (R : Nat → Nat → Int32) (Z : Nat → Int32) (A : Nat → Nat → Int32) (Y : Nat → Int32) : am_D X 13 [.ref 12, .ref 35] (am_WH R Z A Y) = some (none, am_WH (am_up R 5 (am_rc 8 (R 5) (R 14))) Z A Y) := (am_row_copy (q := 13) (n := 8) (f := R 5) (q2 := 36) (g := R 14) rfl rfl rfl rfl (by decide) (by decide) rfl rfl).trans rfl
theorem d_X1_copyFrom_12_61 (X : AMx) (R : Nat → Nat → Int32) (Z : Nat → Int32) (A : Nat → Nat → Int32) (Y : Nat → Int32) : am_D X 13 [.ref 12, .ref 61] (am_WH R Z A Y) = some (none, am_WH (am_up R 5 (am_rc 8 (R 5) (R 23))) Z A Y) := (am_row_copy (q := 13) (n := 8) (f := R 5) (q2 := 62) (g := R 23) rfl rfl rfl rfl (by decide) (by decide) rfl rfl).trans rfl
theorem d_X1_copyFrom_12_80 (X : AMx) (R : Nat → Nat → Int32) (Z : Nat → Int32) (A : Nat → Nat → Int32) (Y : Nat → Int32) : am_D X 13 [.ref 12, .ref 80] (am_WH R Z A Y) = some (none, am_WH (am_up R 5 (am_rc 8 (R 5) (R 32))) Z A Y) := (am_row_copy (q := 13) (n := 8) (f := R 5) (q2 := 81) (g := R 32) rfl rfl rfl rfl (by decide) (by decide) rfl rfl).trans rfl
theorem d_X1_copyFrom_14_37 (X : AMx) (R : Nat → Nat → Int32) (Z : Nat → Int32) (A : Nat → Nat → Int32) (Y : Nat → Int32) : am_D X 13 [.ref 14, .ref 37] (am_WH R Z A Y) = some (none, am_WH (am_up R 6 (am_rc 12 (R 6) (R 15))) Z A Y) := (am_row_copy (q := 15) (n := 12) (f := R 6) (q2 := 38) (g := R 15) rfl rfl rfl rfl (by decide) (by decide) rfl rfl).trans rfl
theorem d_X1_copyFrom_14_63 (X : AMx) (R : Nat → Nat → Int32) (Z : Nat → Int32) (A : Nat → Nat → Int32) (Y : Nat → Int32) : am_D X 13 [.ref 14, .ref 63] (am_WH R Z A Y) = some (none, am_WH (am_up R 6 (am_rc 12 (R 6) (R 24))) Z A Y) := (am_row_copy (q := 15) (n := 12) (f := R 6) (q2 := 64) (g := R 24) rfl rfl rfl rfl (by decide) (by decide) rfl rfl).trans rfl
theorem d_X1_copyFrom_14_82 (X : AMx) (R : Nat → Nat → Int32) (Z : Nat → Int32) (A : Nat → Nat → Int32) (Y : Nat → Int32) : am_D X 13 [.ref 14, .ref 82] (am_WH R Z A Y) = some (none, am_WH (am_up R 6 (am_rc 12 (R 6) (R 33))) Z A Y) := (am_row_copy (q := 15) (n := 12) (f := R 6) (q2 := 83) (g := R 33) rfl rfl rfl rfl (by decide) (by decide) rfl rfl).trans rfl
theorem d_X1_copyFrom_16_39 (X : AMx) (R : Nat → Nat → Int32) (Z : Nat → Int32) (A : Nat → Nat → Int32) (Y : Nat → Int32) : am_D X 13 [.ref 16, .ref 39] (am_WH R Z A Y) = some (none, am_WH (am_up R 7 (am_rc 12 (R 7) (R 16))) Z A Y) := (am_row_copy (q := 17) (n := 12) (f := R 7) (q2 := 40) (g := R 16) rfl rfl rfl rfl (by decide) (by decide) rfl rfl).trans rfl
theorem d_X1_copyFrom_16_65 (X : AMx) (R : Nat → Nat → Int32) (Z : Nat → Int32) (A : Nat → Nat → Int32) (Y : Nat → Int32) : am_D X 13 [.ref 16, .ref 65] (am_WH R Z A Y) = some (none, am_WH (am_up R 7 (am_rc 12 (R 7) (R 25))) Z A Y) := (am_row_copy (q := 17) (n := 12) (f := R 7) (q2 := 66) (g := R 25) rfl rfl rfl rfl (by decide) (by decide) rfl rfl).trans rfl
theorem d_X1_copyFrom_16_84 (X : AMx) (R : Nat → Nat → Int32) (Z : Nat → Int32) (A : Nat → Nat → Int32) (Y : Nat → Int32) : am_D X 13 [.ref 16, .ref 84] (am_WH R Z A Y) = some (none, am_WH (am_up R 7 (am_rc 12 (R 7) (R 34))) Z A Y) := (am_row_copy (q := 17) (n := 12) (f := R 7) (q2 := 85) (g := R 34) rfl rfl rfl rfl (by decide) (by decide) rfl rfl).trans rfl
theorem d_X1_copyFrom_18_41 (X : AMx) (R : Nat → Nat → Int32) (Z : Nat → Int32) (A : Nat → Nat → Int32) (Y : Nat → Int32) : am_D X 13 [.ref 18, .ref 41] (am_WH R Z A Y) = some (none, am_WH (am_up R 8 (am_rc 12 (R 8) (R 17))) Z A Y) := (am_row_copy (q := 19) (n := 12) (f := R 8) (q2 := 42) (g := R 17) rfl rfl rfl rfl (by decide) (by decide) rfl rfl).trans rfl
theorem d_X1_copyFrom_18_67 (X : AMx) (R : Nat → Nat → Int32) (Z : Nat → Int32) (A : Nat → Nat → Int32) (Y : Nat → Int32) : am_D X 13 [.ref 18, .ref 67] (am_WH R Z A Y) = some (none, am_WH (am_up R 8 (am_rc 12 (R 8) (R 26))) Z A Y) := (am_row_copy (q := 19) (n := 12) (f := R 8) (q2 := 68) (g := R 26) rfl rfl rfl rfl (by decide) (by decide) rfl rfl).trans rfl
theorem d_X1_copyFrom_18_86 (X : AMx) (R : Nat → Nat → Int32) (Z : Nat → Int32) (A : Nat → Nat → Int32) (Y : Nat → Int32) : am_D X 13 [.ref 18, .ref 86] (am_WH R Z A Y) = some (none, am_WH (am_up R 8 (am_rc 12 (R 8) (R 35))) Z A Y) := (am_row_copy (q := 19) (n := 12) (f := R 8) (q2 := 87) (g := R 35) rfl rfl rfl rfl (by decide) (by decide) rfl rfl).trans rfl
theorem d_X1_copyFrom_25_2 (X : AMx) (R : Nat → Nat → Int32) (Z : Nat → Int32) (A : Nat → Nat → Int32) (Y : Nat → Int32) : am_D X 13 [.ref 25, .ref 2] (am_WH R Z A Y) = some (none, am_WH (am_up R 9 (am_rc 3 (R 9) (R 0))) Z A Y) := (am_row_copy (q := 26) (n := 3) (f := R 9) (q2 := 3) (g := R 0) rfl rfl rfl rfl (by decide) (by decide) rfl rfl).trans rfl
theorem d_X1_copyFrom_27_4 (X : AMx) (R : Nat → Nat → Int32) (Z : Nat → Int32) (A : Nat → Nat → Int32) (Y : Nat → Int32) : am_D X 13 [.ref 27, .ref 4] (am_WH R Z A Y) = some (none, am_WH (am_up R 10 (am_rc 7 (R 10) (R 1))) Z A Y) := (am_row_copy (q := 28) (n := 7) (f := R 10) (q2 := 5) (g := R 1) rfl rfl rfl rfl (by decide) (by decide) rfl rfl).trans rfl
theorem d_X1_copyFrom_29_6 (X : AMx) (R : Nat → Nat → Int32) (Z : Nat → Int32) (A : Nat → Nat → Int32) (Y : Nat → Int32) : am_D X 13 [.ref 29, .ref 6] (am_WH R Z A Y) = some (none, am_WH (am_up R 11 (am_rc 7 (R 11) (R 2))) Z A Y) := (am_row_copy (q := 30) (n := 7) (f := R 11) (q2 := 7) (g := R 2) rfl rfl rfl rfl (by decide) (by decide) rfl rfl).trans rfl
theorem d_X1_copyFrom_31_8 (X : AMx) (R : Nat → Nat → Int32) (Z : Nat → Int32) (A : Nat → Nat → Int32) (Y : Nat → Int32) : am_D X 13 [.ref 31, .ref 8] (am_WH R Z A Y) = some (none, am_WH (am_up R 12 (am_rc 7 (R 12) (R 3))) Z A Y) := (am_row_copy (q := 32) (n := 7) (f := R 12) (q2 := 9) (g := R 3) rfl rfl rfl rfl (by decide) (by decide) rfl rfl).trans rfl
theorem d_X1_copyFrom_33_10 (X : AMx) (R : Nat → Nat → Int32) (Z : Nat → Int32) (A : Nat → Nat → Int32) (Y : Nat → Int32) : am_D X 13 [.ref 33, .ref 10] (am_WH R Z A Y) = some (none, am_WH (am_up R 13 (am_rc 8 (R 13) (R 4))) Z A Y) := (am_row_copy (q := 34) (n := 8) (f := R 13) (q2 := 11) (g := R 4) rfl rfl rfl rfl (by decide) (by decide) rfl rfl).trans rfl
theorem d_X1_copyFrom_35_12 (X : AMx) (R : Nat → Nat → Int32) (Z : Nat → Int32) (A : Nat → Nat → Int32) (Y : Nat → Int32) : am_D X 13 [.ref 35, .ref 12] (am_WH R Z A Y) = some (none, am_WH (am_up R 14 (am_rc 8 (R 14) (R 5))) Z A Y) := (am_row_copy (q := 36) (n := 8) (f := R 14) (q2 := 13) (g := R 5) rfl rfl rfl rfl (by decide) (by decide) rfl rfl).trans rfl
theorem d_X1_copyFrom_37_14 (X : AMx) (R : Nat → Nat → Int32) (Z : Nat → Int32) (A : Nat → Nat → Int32) (Y : Nat → Int32) : am_D X 13 [.ref 37, .ref 14] (am_WH R Z A Y) = some (none, am_WH (am_up R 15 (am_rc 12 (R 15) (R 6))) Z A Y) := (am_row_copy (q := 38) (n := 12) (f := R 15) (q2 := 15) (g := R 6) rfl rfl rfl rfl (by decide) (by decide) rfl rfl).trans rfl
theorem d_X1_copyFrom_39_16 (X : AMx) (R : Nat → Nat → Int32) (Z : Nat → Int32) (A : Nat → Nat → Int32) (Y : Nat → Int32) : am_D X 13 [.ref 39, .ref 16] (am_WH R Z A Y) = some (none, am_WH (am_up R 16 (am_rc 12 (R 16) (R 7))) Z A Y) := (am_row_copy (q := 40) (n := 12) (f := R 16) (q2 := 17) (g := R 7) rfl rfl rfl rfl (by decide) (by decide) rfl rfl).trans rfl
theorem d_X1_copyFrom_41_18 (X : AMx) (R : Nat → Nat → Int32) (Z : Nat → Int32) (A : Nat → Nat → Int32) (Y : Nat → Int32) : am_D X 13 [.ref 41, .ref 18] (am_WH R Z A Y) = some (none, am_WH (am_up R 17 (am_rc 12 (R 17) (R 8))) Z A Y) := (am_row_copy (q := 42) (n := 12) (f := R 17) (q2 := 19) (g := R 8) rfl rfl rfl rfl (by decide) (by decide) rfl rfl).trans rfl
theorem d_X1_copyFrom_44_4 (X : AMx) (R : Nat → Nat → Int32) (Z : Nat → Int32) (A : Nat → Nat → Int32) (Y : Nat → Int32) : am_D X 13 [.ref 44, .ref 4] (am_WH R Z A Y) = some (none, am_WH (am_up R 37 (am_rc 7 (R 37) (R 1))) Z A Y) := (am_row_copy (q := 45) (n := 7) (f := R 37) (q2 := 5) (g := R 1) rfl rfl rfl rfl (by decide) (by decide) rfl rfl).trans rfl
theorem d_X1_copyFrom_44_46 (X : AMx) (R : Nat → Nat → Int32) (Z : Nat → Int32) (A : Nat → Nat → Int32) (Y : Nat → Int32) : am_D X 13 [.ref 44, .ref 46] (am_WH R Z A Y) = some (none, am_WH (am_up R 37 (am_rc 7 (R 37) (R 38))) Z A Y) := (am_row_copy (q := 45) (n := 7) (f := R 37) (q2 := 47) (g := R 38) rfl rfl rfl rfl (by decide) (by decide) rfl rfl).trans rfl
theorem d_X1_copyFrom_51_2 (X : AMx) (R : Nat → Nat → Int32) (Z : Nat → Int32) (A : Nat → Nat → Int32) (Y : Nat → Int32) : am_D X 13 [.ref 51, .ref 2] (am_WH R Z A Y) = some (none, am_WH (am_up R 18 (am_rc 3 (R 18) (R 0))) Z A Y) := (am_row_copy (q := 52) (n := 3) (f := R 18) (q2 := 3) (g := R 0) rfl rfl rfl rfl (by decide) (by decide) rfl rfl).trans rfl
theorem d_X1_copyFrom_53_4 (X : AMx) (R : Nat → Nat → Int32) (Z : Nat → Int32) (A : Nat → Nat → Int32) (Y : Nat → Int32) : am_D X 13 [.ref 53, .ref 4] (am_WH R Z A Y) = some (none, am_WH (am_up R 19 (am_rc 7 (R 19) (R 1))) Z A Y) := (am_row_copy (q := 54) (n := 7) (f := R 19) (q2 := 5) (g := R 1) rfl rfl rfl rfl (by decide) (by decide) rfl rfl).trans rfl
theorem d_X1_copyFrom_55_6 (X : AMx) (R : Nat → Nat → Int32) (Z : Nat → Int32) (A : Nat → Nat → Int32) (Y : Nat → Int32) : am_D X 13 [.ref 55, .ref 6] (am_WH R Z A Y) = some (none, am_WH (am_up R 20 (am_rc 7 (R 20) (R 2))) Z A Y) := (am_row_copy (q := 56) (n := 7) (f := R 20) (q2 := 7) (g := R 2) rfl rfl rfl rfl (by decide) (by decide) rfl rfl).trans rfl
theorem d_X1_copyFrom_57_8 (X : AMx) (R : Nat → Nat → Int32) (Z : Nat → Int32) (A : Nat → Nat → Int32) (Y : Nat → Int32) : am_D X 13 [.ref 57, .ref 8] (am_WH R Z A Y) = some (none, am_WH (am_up R 21 (am_rc 7 (R 21) (R 3))) Z A Y) := (am_row_copy (q := 58) (n := 7) (f := R 21) (q2 := 9) (g := R 3) rfl rfl rfl rfl (by decide) (by decide) rfl rfl).trans rfl
theorem d_X1_copyFrom_59_10 (X : AMx) (R : Nat → Nat → Int32) (Z : Nat → Int32) (A : Nat → Nat → Int32) (Y : Nat → Int32) : am_D X 13 [.ref 59, .ref 10] (am_WH R Z A Y) = some (none, am_WH (am_up R 22 (am_rc 8 (R 22) (R 4))) Z A Y) := (am_row_copy (q := 60) (n := 8) (f := R 22) (q2 := 11) (g := R 4) rfl rfl rfl rfl (by decide) (by decide) rfl rfl).trans rfl
theorem d_X1_copyFrom_61_12 (X : AMx) (R : Nat → Nat → Int32) (Z : Nat → Int32) (A : Nat → Nat → Int32) (Y : Nat → Int32) : am_D X 13 [.ref 61, .ref 12] (am_WH R Z A Y) = some (none, am_WH (am_up R 23 (am_rc 8 (R 23) (R 5))) Z A Y) := (am_row_copy (q := 62) (n := 8) (f := R 23) (q2 := 13) (g := R 5) rfl rfl rfl rfl (by decide) (by decide) rfl rfl).trans rfl
theorem d_X1_copyFrom_63_14 (X : AMx) (R : Nat → Nat → Int32) (Z : Nat → Int32) (A : Nat → Nat → Int32) (Y : Nat → Int32) : am_D X 13 [.ref 63, .ref 14] (am_WH R Z A Y) = some (none, am_WH (am_up R 24 (am_rc 12 (R 24) (R 6))) Z A Y) := (am_row_copy (q := 64) (n := 12) (f := R 24) (q2 := 15) (g := R 6) rfl rfl rfl rfl (by decide) (by decide) rfl rfl).trans rfl
theorem d_X1_copyFrom_65_16 (X : AMx) (R : Nat → Nat → Int32) (Z : Nat → Int32) (A : Nat → Nat → Int32) (Y : Nat → Int32) : am_D X 13 [.ref 65, .ref 16] (am_WH R Z A Y) = some (none, am_WH (am_up R 25 (am_rc 12 (R 25) (R 7))) Z A Y) := (am_row_copy (q := 66) (n := 12) (f := R 25) (q2 := 17) (g := R 7) rfl rfl rfl rfl (by decide) (by decide) rfl rfl).trans rfl
theorem d_X1_copyFrom_67_18 (X : AMx) (R : Nat → Nat → Int32) (Z : Nat → Int32) (A : Nat → Nat → Int32) (Y : Nat → Int32) : am_D X 13 [.ref 67, .ref 18] (am_WH R Z A Y) = some (none, am_WH (am_up R 26 (am_rc 12 (R 26) (R 8))) Z A Y) := (am_row_copy (q := 68) (n := 12) (f := R 26) (q2 := 19) (g := R 8) rfl rfl rfl rfl (by decide) (by decide) rfl rfl).trans rfl
theorem d_X1_copyFrom_70_2 (X : AMx) (R : Nat → Nat → Int32) (Z : Nat → Int32) (A : Nat → Nat → Int32) (Y : Nat → Int32) : am_D X 13 [.ref 70, .ref 2] (am_WH R Z A Y) = some (none, am_WH (am_up R 27 (am_rc 3 (R 27) (R 0))) Z A Y) := (am_row_copy (q := 71) (n := 3) (f := R 27) (q2 := 3) (g := R 0) rfl rfl rfl rfl (by decide) (by decide) rfl rfl).trans rfl
theorem d_X1_copyFrom_72_4 (X : AMx) (R : Nat → Nat → Int32) (Z : Nat → Int32) (A : Nat → Nat → Int32) (Y : Nat → Int32) : am_D X 13 [.ref 72, .ref 4] (am_WH R Z A Y) = some (none, am_WH (am_up R 28 (am_rc 7 (R 28) (R 1))) Z A Y) := (am_row_copy (q := 73) (n := 7) (f := R 28) (q2 := 5) (g := R 1) rfl rfl rfl rfl (by decide) (by decide) rfl rfl).trans rfl
theorem d_X1_copyFrom_74_6 (X : AMx) (R : Nat → Nat → Int32) (Z : Nat → Int32) (A : Nat → Nat → Int32) (Y : Nat → Int32) : am_D X 13 [.ref 74, .ref 6] (am_WH R Z A Y) = some (none, am_WH (am_up R 29 (am_rc 7 (R 29) (R 2))) Z A Y) := (am_row_copy (q := 75) (n := 7) (f := R 29) (q2 := 7) (g := R 2) rfl rfl rfl rfl (by decide) (by decide) rfl rfl).trans rfl
theorem d_X1_copyFrom_76_8 (X : AMx) (R : Nat → Nat → Int32) (Z : Nat → Int32) (A : Nat → Nat → Int32) (Y : Nat → Int32) : am_D X 13 [.ref 76, .ref 8] (am_WH R Z A Y) = some (none, am_WH (am_up R 30 (am_rc 7 (R 30) (R 3))) Z A Y) := (am_row_copy (q := 77) (n := 7) (f := R 30) (q2 := 9) (g := R 3) rfl rfl rfl rfl (by decide) (by decide) rfl rfl).trans rfl
theorem d_X1_copyFrom_78_10 (X : AMx) (R : Nat → Nat → Int32) (Z : Nat → Int32) (A : Nat → Nat → Int32) (Y : Nat → Int32) : am_D X 13 [.ref 78, .ref 10] (am_WH R Z A Y) = some (none, am_WH (am_up R 31 (am_rc 8 (R 31) (R 4))) Z A Y) := (am_row_copy (q := 79) (n := 8) (f := R 31) (q2 := 11) (g := R 4) rfl rfl rfl rfl (by decide) (by decide) rfl rfl).trans rfl
theorem d_X1_copyFrom_80_12 (X : AMx) (R : Nat → Nat → Int32) (Z : Nat → Int32) (A : Nat → Nat → Int32) (Y : Nat → Int32) : am_D X 13 [.ref 80, .ref 12] (am_WH R Z A Y) = some (none, am_WH (am_up R 32 (am_rc 8 (R 32) (R 5))) Z A Y) := (am_row_copy (q := 81) (n := 8) (f := R 32) (q2 := 13) (g := R 5) rfl rfl rfl rfl (by decide) (by decide) rfl rfl).trans rfl
theorem d_X1_copyFrom_82_14 (X : AMx) (R : Nat → Nat → Int32) (Z : Nat → Int32) (A : Nat → Nat → Int32) (Y : Nat → Int32) : am_D X 13 [.ref 82, .ref 14] (am_WH R Z A Y) = some (none, am_WH (am_up R 33 (am_rc 12 (R 33) (R 6))) Z A Y) := (am_row_copy (q := 83) (n := 12) (f := R 33) (q2 := 15) (g := R 6) rfl rfl rfl rfl (by decide) (by decide) rfl rfl).trans rfl
theorem d_X1_copyFrom_84_16 (X : AMx) (R : Nat → Nat → Int32) (Z : Nat → Int32) (A : Nat → Nat → Int32) (Y : Nat → Int32) : am_D X 13 [.ref 84, .ref 16] (am_WH R Z A Y) = some (none, am_WH (am_up R 34 (am_rc 12 (R 34) (R 7))) Z A Y) := (am_row_copy (q := 85) (n := 12) (f := R 34) (q2 := 17) (g := R 7) rfl rfl rfl rfl (by decide) (by decide) rfl rfl).trans rfl
theorem d_X1_copyFrom_86_18 (X : AMx) (R : Nat → Nat → Int32) (Z : Nat → Int32) (A : Nat → Nat → Int32) (Y : Nat → Int32) : am_D X 13 [.ref 86, .ref 18] (am_WH R Z A Y) = some (none, am_WH (am_up R 35 (am_rc 12 (R 35) (R 8))) Z A Y) := (am_row_copy (q := 87) (n := 12) (f := R 35) (q2 := 19) (g := R 8) rfl rfl rfl rfl (by decide) (by decide) rfl rfl).trans rfl
theorem d_X1_get_2 (X : AMx) (R : Nat → Nat → Int32) (Z : Nat → Int32) (A : Nat → Nat → Int32) (Y : Nat → Int32) (i : Int32) : am_D X 11 [.ref 2, .int i] (am_WH R Z A Y) = some (some (.int (am_rg 3 (R 0) i)), am_WH R Z A Y) := am_row_get (q := 3) rfl rfl (by decide) rfl
theorem d_X1_get_4 (X : AMx) (R : Nat → Nat → Int32) (Z : Nat → Int32) (A : Nat → Nat → Int32) (Y : Nat → Int32) (i : Int32) : am_D X 11 [.ref 4, .int i] (am_WH R Z A Y) = some (some (.int (am_rg 7 (R 1) i)), am_WH R Z A Y) := am_row_get (q := 5) rfl rfl (by decide) rfl
theorem d_X1_get_6 (X : AMx) (R : Nat → Nat → Int32) (Z : Nat → Int32) (A : Nat → Nat → Int32) (Y : Nat → Int32) (i : Int32) : am_D X 11 [.ref 6, .int i] (am_WH R Z A Y) = some (some (.int (am_rg 7 (R 2) i)), am_WH R Z A Y) := am_row_get (q := 7) rfl rfl (by decide) rfl
theorem d_X1_get_8 (X : AMx) (R : Nat → Nat → Int32) (Z : Nat → Int32) (A : Nat → Nat → Int32) (Y : Nat → Int32) (i : Int32) : am_D X 11 [.ref 8, .int i] (am_WH R Z A Y) = some (some (.int (am_rg 7 (R 3) i)), am_WH R Z A Y) := am_row_get (q := 9) rfl rfl (by decide) rfl
theorem d_X1_get_10 (X : AMx) (R : Nat → Nat → Int32) (Z : Nat → Int32) (A : Nat → Nat → Int32) (Y : Nat → Int32) (i : Int32) : am_D X 11 [.ref 10, .int i] (am_WH R Z A Y) = some (some (.int (am_rg 8 (R 4) i)), am_WH R Z A Y) := am_row_get (q := 11) rfl rfl (by decide) rfl
theorem d_X1_get_12 (X : AMx) (R : Nat → Nat → Int32) (Z : Nat → Int32) (A : Nat → Nat → Int32) (Y : Nat → Int32) (i : Int32) : am_D X 11 [.ref 12, .int i] (am_WH R Z A Y) = some (some (.int (am_rg 8 (R 5) i)), am_WH R Z A Y) := am_row_get (q := 13) rfl rfl (by decide) rfl
theorem d_X1_get_14 (X : AMx) (R : Nat → Nat → Int32) (Z : Nat → Int32) (A : Nat → Nat → Int32) (Y : Nat → Int32) (i : Int32) : am_D X 11 [.ref 14, .int i] (am_WH R Z A Y) = some (some (.int (am_rg 12 (R 6) i)), am_WH R Z A Y) := am_row_get (q := 15) rfl rfl (by decide) rfl
theorem d_X1_get_16 (X : AMx) (R : Nat → Nat → Int32) (Z : Nat → Int32) (A : Nat → Nat → Int32) (Y : Nat → Int32) (i : Int32) : am_D X 11 [.ref 16, .int i] (am_WH R Z A Y) = some (some (.int (am_rg 12 (R 7) i)), am_WH R Z A Y) := am_row_get (q := 17) rfl rfl (by decide) rfl
theorem d_X1_get_18 (X : AMx) (R : Nat → Nat → Int32) (Z : Nat → Int32) (A : Nat → Nat → Int32) (Y : Nat → Int32) (i : Int32) : am_D X 11 [.ref 18, .int i] (am_WH R Z A Y) = some (some (.int (am_rg 12 (R 8) i)), am_WH R Z A Y) := am_row_get (q := 19) rfl rfl (by decide) rfl
theorem d_X1_get_21 (X : AMx) (R : Nat → Nat → Int32) (Z : Nat → Int32) (A : Nat → Nat → Int32) (Y : Nat → Int32) (i : Int32) : am_D X 11 [.ref 21, .int i] (am_WH R Z A Y) = some (some (.int (am_rg 60 (R 36) i)), am_WH R Z A Y) := am_row_get (q := 22) rfl rfl (by decide) rfl
theorem d_X1_get_25 (X : AMx) (R : Nat → Nat → Int32) (Z : Nat → Int32) (A : Nat → Nat → Int32) (Y : Nat → Int32) (i : Int32) : am_D X 11 [.ref 25, .int i] (am_WH R Z A Y) = some (some (.int (am_rg 3 (R 9) i)), am_WH R Z A Y) := am_row_get (q := 26) rfl rfl (by decide) rfl
theorem d_X1_get_27 (X : AMx) (R : Nat → Nat → Int32) (Z : Nat → Int32) (A : Nat → Nat → Int32) (Y : Nat → Int32) (i : Int32) : am_D X 11 [.ref 27, .int i] (am_WH R Z A Y) = some (some (.int (am_rg 7 (R 10) i)), am_WH R Z A Y) := am_row_get (q := 28) rfl rfl (by decide) rfl
theorem d_X1_get_29 (X : AMx) (R : Nat → Nat → Int32) (Z : Nat → Int32) (A : Nat → Nat → Int32) (Y : Nat → Int32) (i : Int32) : am_D X 11 [.ref 29, .int i] (am_WH R Z A Y) = some (some (.int (am_rg 7 (R 11) i)), am_WH R Z A Y) := am_row_get (q := 30) rfl rfl (by decide) rfl
theorem d_X1_get_33 (X : AMx) (R : Nat → Nat → Int32) (Z : Nat → Int32) (A : Nat → Nat → Int32) (Y : Nat → Int32) (i : Int32) : am_D X 11 [.ref 33, .int i] (am_WH R Z A Y) = some (some (.int (am_rg 8 (R 13) i)), am_WH R Z A Y) := am_row_get (q := 34) rfl rfl (by decide) rfl
theorem d_X1_get_35 (X : AMx) (R : Nat → Nat → Int32) (Z : Nat → Int32) (A : Nat → Nat → Int32) (Y : Nat → Int32) (i : Int32) : am_D X 11 [.ref 35, .int i] (am_WH R Z A Y) = some (some (.int (am_rg 8 (R 14) i)), am_WH R Z A Y) := am_row_get (q := 36) rfl rfl (by decide) rfl
theorem d_X1_get_44 (X : AMx) (R : Nat → Nat → Int32) (Z : Nat → Int32) (A : Nat → Nat → Int32) (Y : Nat → Int32) (i : Int32) : am_D X 11 [.ref 44, .int i] (am_WH R Z A Y) = some (some (.int (am_rg 7 (R 37) i)), am_WH R Z A Y) := am_row_get (q := 45) rfl rfl (by decide) rfl
theorem d_X1_get_48 (X : AMx) (R : Nat → Nat → Int32) (Z : Nat → Int32) (A : Nat → Nat → Int32) (Y : Nat → Int32) (i : Int32) : am_D X 11 [.ref 48, .int i] (am_WH R Z A Y) = some (some (.int (am_rg 2188 (R 39) i)), am_WH R Z A Y) := am_row_get (q := 49) rfl rfl (by decide) rfl
theorem d_X1_set_2 (X : AMx) (R : Nat → Nat → Int32) (Z : Nat → Int32) (A : Nat → Nat → Int32) (Y : Nat → Int32) (i x : Int32) : am_D X 12 [.ref 2, .int i, .int x] (am_WH R Z A Y) = some (none, am_WH (am_up R 0 (am_rs 3 (R 0) i x)) Z A Y) := (am_row_set (q := 3) (n := 3) (f := R 0) rfl rfl (by decide) rfl).trans rfl
theorem d_X1_set_4 (X : AMx) (R : Nat → Nat → Int32) (Z : Nat → Int32) (A : Nat → Nat → Int32) (Y : Nat → Int32) (i x : Int32) : am_D X 12 [.ref 4, .int i, .int x] (am_WH R Z A Y) = some (none, am_WH (am_up R 1 (am_rs 7 (R 1) i x)) Z A Y) := (am_row_set (q := 5) (n := 7) (f := R 1) rfl rfl (by decide) rfl).trans rfl
theorem d_X1_set_6 (X : AMx) (R : Nat → Nat → Int32) (Z : Nat → Int32) (A : Nat → Nat → Int32) (Y : Nat → Int32) (i x : Int32) : am_D X 12 [.ref 6, .int i, .int x] (am_WH R Z A Y) = some (none, am_WH (am_up R 2 (am_rs 7 (R 2) i x)) Z A Y) := (am_row_set (q := 7) (n := 7) (f := R 2) rfl rfl (by decide) rfl).trans rfl
theorem d_X1_set_8 (X : AMx) (R : Nat → Nat → Int32) (Z : Nat → Int32) (A : Nat → Nat → Int32) (Y : Nat → Int32) (i x : Int32) : am_D X 12 [.ref 8, .int i, .int x] (am_WH R Z A Y) = some (none, am_WH (am_up R 3 (am_rs 7 (R 3) i x)) Z A Y) := (am_row_set (q := 9) (n := 7) (f := R 3) rfl rfl (by decide) rfl).trans rfl
theorem d_X1_set_14 (X : AMx) (R : Nat → Nat → Int32) (Z : Nat → Int32) (A : Nat → Nat → Int32) (Y : Nat → Int32) (i x : Int32) : am_D X 12 [.ref 14, .int i, .int x] (am_WH R Z A Y) = some (none, am_WH (am_up R 6 (am_rs 12 (R 6) i x)) Z A Y) := (am_row_set (q := 15) (n := 12) (f := R 6) rfl rfl (by decide) rfl).trans rfl
theorem d_X1_set_16 (X : AMx) (R : Nat → Nat → Int32) (Z : Nat → Int32) (A : Nat → Nat → Int32) (Y : Nat → Int32) (i x : Int32) : am_D X 12 [.ref 16, .int i, .int x] (am_WH R Z A Y) = some (none, am_WH (am_up R 7 (am_rs 12 (R 7) i x)) Z A Y) := (am_row_set (q := 17) (n := 12) (f := R 7) rfl rfl (by decide) rfl).trans rfl
theorem d_X1_set_18 (X : AMx) (R : Nat → Nat → Int32) (Z : Nat → Int32) (A : Nat → Nat → Int32) (Y : Nat → Int32) (i x : Int32) : am_D X 12 [.ref 18, .int i, .int x] (am_WH R Z A Y) = some (none, am_WH (am_up R 8 (am_rs 12 (R 8) i x)) Z A Y) := (am_row_set (q := 19) (n := 12) (f := R 8) rfl rfl (by decide) rfl).trans rfl
theorem d_X1_set_21 (X : AMx) (R : Nat → Nat → Int32) (Z : Nat → Int32) (A : Nat → Nat → Int32) (Y : Nat → Int32) (i x : Int32) : am_D X 12 [.ref 21, .int i, .int x] (am_WH R Z A Y) = some (none, am_WH (am_up R 36 (am_rs 60 (R 36) i x)) Z A Y) := (am_row_set (q := 22) (n := 60) (f := R 36) rfl rfl (by decide) rfl).trans rfl
theorem d_X1_set_27 (X : AMx) (R : Nat → Nat → Int32) (Z : Nat → Int32) (A : Nat → Nat → Int32) (Y : Nat → Int32) (i x : Int32) : am_D X 12 [.ref 27, .int i, .int x] (am_WH R Z A Y) = some (none, am_WH (am_up R 10 (am_rs 7 (R 10) i x)) Z A Y) := (am_row_set (q := 28) (n := 7) (f := R 10) rfl rfl (by decide) rfl).trans rfl
theorem d_X1_set_29 (X : AMx) (R : Nat → Nat → Int32) (Z : Nat → Int32) (A : Nat → Nat → Int32) (Y : Nat → Int32) (i x : Int32) : am_D X 12 [.ref 29, .int i, .int x] (am_WH R Z A Y) = some (none, am_WH (am_up R 11 (am_rs 7 (R 11) i x)) Z A Y) := (am_row_set (q := 30) (n := 7) (f := R 11) rfl rfl (by decide) rfl).trans rfl
theorem d_X1_set_33 (X : AMx) (R : Nat → Nat → Int32) (Z : Nat → Int32) (A : Nat → Nat → Int32) (Y : Nat → Int32) (i x : Int32) : am_D X 12 [.ref 33, .int i, .int x] (am_WH R Z A Y) = some (none, am_WH (am_up R 13 (am_rs 8 (R 13) i x)) Z A Y) := (am_row_set (q := 34) (n := 8) (f := R 13) rfl rfl (by decide) rfl).trans rfl
theorem d_X1_set_35 (X : AMx) (R : Nat → Nat → Int32) (Z : Nat → Int32) (A : Nat → Nat → Int32) (Y : Nat → Int32) (i x : Int32) : am_D X 12 [.ref 35, .int i, .int x] (am_WH R Z A Y) = some (none, am_WH (am_up R 14 (am_rs 8 (R 14) i x)) Z A Y) := (am_row_set (q := 36) (n := 8) (f := R 14) rfl rfl (by decide) rfl).trans rfl
theorem d_X1_set_46 (X : AMx) (R : Nat → Nat → Int32) (Z : Nat → Int32) (A : Nat → Nat → Int32) (Y : Nat → Int32) (i x : Int32) : am_D X 12 [.ref 46, .int i, .int x] (am_WH R Z A Y) = some (none, am_WH (am_up R 38 (am_rs 7 (R 38) i x)) Z A Y) := (am_row_set (q := 47) (n := 7) (f := R 38) rfl rfl (by decide) rfl).trans rfl
theorem d_X1_set_48 (X : AMx) (R : Nat → Nat → Int32) (Z : Nat → Int32) (A : Nat → Nat → Int32) (Y : Nat → Int32) (i x : Int32) : am_D X 12 [.ref 48, .int i, .int x] (am_WH R Z A Y) = some (none, am_WH (am_up R 39 (am_rs 2188 (R 39) i x)) Z A Y) := (am_row_set (q := 49) (n := 2188) (f := R 39) rfl rfl (by decide) rfl).trans rfl
end
