section
-- ===== PART A: goes FIRST, ahead of the names: the tables' words, and 'selects' of the private methods out of them =====
/-- a private method of a class that the tables say can be made, by its rows of tables_1 -/
def lw_okq (q : MethodName × Nat) : Prop := (q.1.cls ≠ "java/lang/invoke/MethodHandle" ∧ q.1.cls ≠ "java/lang/invoke/VarHandle") ∧ Cond.instantiable q.1.cls q.2 ∈ tables_1 ∧ Cond.privateMethod q.1 ∈ tables_1 ∧ Cond.instanceMethod q.1 ∈ tables_1
theorem lw_p0 : lw_okq (⟨"UnitFinder", "become", "(I)V"⟩, 11) := ⟨⟨by decide +kernel, by decide +kernel⟩, List.mem_of_getElem? (i := 14) (by decide +kernel), List.mem_of_getElem? (i := 70) (by decide +kernel), List.mem_of_getElem? (i := 71) (by decide +kernel)⟩
theorem lw_p1 : lw_okq (⟨"UnitFinder", "findUnitAbove", "(I)V"⟩, 11) := ⟨⟨by decide +kernel, by decide +kernel⟩, List.mem_of_getElem? (i := 14) (by decide +kernel), List.mem_of_getElem? (i := 74) (by decide +kernel), List.mem_of_getElem? (i := 75) (by decide +kernel)⟩
theorem lw_p2 : lw_okq (⟨"UnitFinder", "walkToOne", "(I)I"⟩, 11) := ⟨⟨by decide +kernel, by decide +kernel⟩, List.mem_of_getElem? (i := 14) (by decide +kernel), List.mem_of_getElem? (i := 78) (by decide +kernel), List.mem_of_getElem? (i := 79) (by decide +kernel)⟩
theorem lw_p3 : lw_okq (⟨"UnitFinder$Recurrence", "gatherNothing", "()V"⟩, 6) := ⟨⟨by decide +kernel, by decide +kernel⟩, List.mem_of_getElem? (i := 41) (by decide +kernel), List.mem_of_getElem? (i := 97) (by decide +kernel), List.mem_of_getElem? (i := 98) (by decide +kernel)⟩
theorem lw_p4 : lw_okq (⟨"UnitFinder$Recurrence", "settle", "()V"⟩, 6) := ⟨⟨by decide +kernel, by decide +kernel⟩, List.mem_of_getElem? (i := 41) (by decide +kernel), List.mem_of_getElem? (i := 107) (by decide +kernel), List.mem_of_getElem? (i := 108) (by decide +kernel)⟩
theorem lw_p5 : lw_okq (⟨"UnitFinder$Big", "addRow", "(JLUnitFinder$Big;I)V"⟩, 3) := ⟨⟨by decide +kernel, by decide +kernel⟩, List.mem_of_getElem? (i := 22) (by decide +kernel), List.mem_of_getElem? (i := 140) (by decide +kernel), List.mem_of_getElem? (i := 141) (by decide +kernel)⟩
theorem lw_p6 : lw_okq (⟨"UnitFinder", "setUnitBelow", "(I)V"⟩, 11) := ⟨⟨by decide +kernel, by decide +kernel⟩, List.mem_of_getElem? (i := 14) (by decide +kernel), List.mem_of_getElem? (i := 149) (by decide +kernel), List.mem_of_getElem? (i := 150) (by decide +kernel)⟩
theorem lw_p7 : lw_okq (⟨"UnitFinder", "makeAutomorph", "(III)V"⟩, 11) := ⟨⟨by decide +kernel, by decide +kernel⟩, List.mem_of_getElem? (i := 14) (by decide +kernel), List.mem_of_getElem? (i := 153) (by decide +kernel), List.mem_of_getElem? (i := 154) (by decide +kernel)⟩
theorem lw_p8 : lw_okq (⟨"UnitFinder$Big", "isLess", "(LUnitFinder$Big;)Z"⟩, 3) := ⟨⟨by decide +kernel, by decide +kernel⟩, List.mem_of_getElem? (i := 22) (by decide +kernel), List.mem_of_getElem? (i := 171) (by decide +kernel), List.mem_of_getElem? (i := 172) (by decide +kernel)⟩
theorem lw_p9 : lw_okq (⟨"UnitFinder", "countUnits", "()I"⟩, 11) := ⟨⟨by decide +kernel, by decide +kernel⟩, List.mem_of_getElem? (i := 14) (by decide +kernel), List.mem_of_getElem? (i := 227) (by decide +kernel), List.mem_of_getElem? (i := 228) (by decide +kernel)⟩
theorem lw_p10 : lw_okq (⟨"java/lang/Throwable", "fillInStackTrace", "(I)Ljava/lang/Throwable;"⟩, 6) := ⟨⟨by decide +kernel, by decide +kernel⟩, List.mem_of_getElem? (i := 281) (by decide +kernel), List.mem_of_getElem? (i := 279) (by decide +kernel), List.mem_of_getElem? (i := 280) (by decide +kernel)⟩
theorem lw_p11 : lw_okq (⟨"UnitFinder", "numberAt", "(I)LUnitFinder$Big;"⟩, 11) := ⟨⟨by decide +kernel, by decide +kernel⟩, List.mem_of_getElem? (i := 14) (by decide +kernel), List.mem_of_getElem? (i := 362) (by decide +kernel), List.mem_of_getElem? (i := 363) (by decide +kernel)⟩
theorem lw_p12 : lw_okq (⟨"UnitFinderModel", "begin", "(J)V"⟩, 9) := ⟨⟨by decide +kernel, by decide +kernel⟩, List.mem_of_getElem? (i := 406) (by decide +kernel), List.mem_of_getElem? (i := 413) (by decide +kernel), List.mem_of_getElem? (i := 414) (by decide +kernel)⟩
theorem lw_p13 : lw_okq (⟨"UnitFinderModel", "be", "(IJ)V"⟩, 9) := ⟨⟨by decide +kernel, by decide +kernel⟩, List.mem_of_getElem? (i := 406) (by decide +kernel), List.mem_of_getElem? (i := 417) (by decide +kernel), List.mem_of_getElem? (i := 418) (by decide +kernel)⟩
theorem lw_p14 : lw_okq (⟨"UnitFinderModel", "put", "(III)V"⟩, 9) := ⟨⟨by decide +kernel, by decide +kernel⟩, List.mem_of_getElem? (i := 406) (by decide +kernel), List.mem_of_getElem? (i := 422) (by decide +kernel), List.mem_of_getElem? (i := 423) (by decide +kernel)⟩
theorem lw_p15 : lw_okq (⟨"UnitFinderModel", "find", "()V"⟩, 9) := ⟨⟨by decide +kernel, by decide +kernel⟩, List.mem_of_getElem? (i := 406) (by decide +kernel), List.mem_of_getElem? (i := 428) (by decide +kernel), List.mem_of_getElem? (i := 429) (by decide +kernel)⟩
def lw_privs_1 : List (MethodName × Nat) := [(⟨"UnitFinder", "become", "(I)V"⟩, 11), (⟨"UnitFinder", "findUnitAbove", "(I)V"⟩, 11), (⟨"UnitFinder", "walkToOne", "(I)I"⟩, 11), (⟨"UnitFinder$Recurrence", "gatherNothing", "()V"⟩, 6), (⟨"UnitFinder$Recurrence", "settle", "()V"⟩, 6), (⟨"UnitFinder$Big", "addRow", "(JLUnitFinder$Big;I)V"⟩, 3), (⟨"UnitFinder", "setUnitBelow", "(I)V"⟩, 11), (⟨"UnitFinder", "makeAutomorph", "(III)V"⟩, 11), (⟨"UnitFinder$Big", "isLess", "(LUnitFinder$Big;)Z"⟩, 3), (⟨"UnitFinder", "countUnits", "()I"⟩, 11), (⟨"java/lang/Throwable", "fillInStackTrace", "(I)Ljava/lang/Throwable;"⟩, 6), (⟨"UnitFinder", "numberAt", "(I)LUnitFinder$Big;"⟩, 11), (⟨"UnitFinderModel", "begin", "(J)V"⟩, 9), (⟨"UnitFinderModel", "be", "(IJ)V"⟩, 9), (⟨"UnitFinderModel", "put", "(III)V"⟩, 9), (⟨"UnitFinderModel", "find", "()V"⟩, 9)]
theorem lw_r1 : ∀ q ∈ lw_privs_1, lw_okq q := List.forall_mem_cons.mpr ⟨lw_p0, List.forall_mem_cons.mpr ⟨lw_p1, List.forall_mem_cons.mpr ⟨lw_p2, List.forall_mem_cons.mpr ⟨lw_p3, List.forall_mem_cons.mpr ⟨lw_p4, List.forall_mem_cons.mpr ⟨lw_p5, List.forall_mem_cons.mpr ⟨lw_p6, List.forall_mem_cons.mpr ⟨lw_p7, List.forall_mem_cons.mpr ⟨lw_p8, List.forall_mem_cons.mpr ⟨lw_p9, List.forall_mem_cons.mpr ⟨lw_p10, List.forall_mem_cons.mpr ⟨lw_p11, List.forall_mem_cons.mpr ⟨lw_p12, List.forall_mem_cons.mpr ⟨lw_p13, List.forall_mem_cons.mpr ⟨lw_p14, List.forall_mem_cons.mpr ⟨lw_p15, fun _ h => absurd h List.not_mem_nil⟩⟩⟩⟩⟩⟩⟩⟩⟩⟩⟩⟩⟩⟩⟩⟩
theorem lw_p16 : lw_okq (⟨"UnitFinderModel", "combine", "(IJIJI)V"⟩, 9) := ⟨⟨by decide +kernel, by decide +kernel⟩, List.mem_of_getElem? (i := 406) (by decide +kernel), List.mem_of_getElem? (i := 435) (by decide +kernel), List.mem_of_getElem? (i := 436) (by decide +kernel)⟩
theorem lw_p17 : lw_okq (⟨"UnitFinderModel", "get", "(II)I"⟩, 9) := ⟨⟨by decide +kernel, by decide +kernel⟩, List.mem_of_getElem? (i := 406) (by decide +kernel), List.mem_of_getElem? (i := 439) (by decide +kernel), List.mem_of_getElem? (i := 440) (by decide +kernel)⟩
theorem lw_p18 : lw_okq (⟨"UnitFinderModel", "copy", "(II)V"⟩, 9) := ⟨⟨by decide +kernel, by decide +kernel⟩, List.mem_of_getElem? (i := 406) (by decide +kernel), List.mem_of_getElem? (i := 443) (by decide +kernel), List.mem_of_getElem? (i := 444) (by decide +kernel)⟩
theorem lw_p19 : lw_okq (⟨"UnitFinderModel", "multiply", "(III)V"⟩, 9) := ⟨⟨by decide +kernel, by decide +kernel⟩, List.mem_of_getElem? (i := 406) (by decide +kernel), List.mem_of_getElem? (i := 447) (by decide +kernel), List.mem_of_getElem? (i := 448) (by decide +kernel)⟩
theorem lw_p20 : lw_okq (⟨"UnitFinderModel", "length", "(I)I"⟩, 9) := ⟨⟨by decide +kernel, by decide +kernel⟩, List.mem_of_getElem? (i := 406) (by decide +kernel), List.mem_of_getElem? (i := 451) (by decide +kernel), List.mem_of_getElem? (i := 452) (by decide +kernel)⟩
theorem lw_p21 : lw_okq (⟨"UnitFinderModel", "turn", "(JJJ)V"⟩, 9) := ⟨⟨by decide +kernel, by decide +kernel⟩, List.mem_of_getElem? (i := 406) (by decide +kernel), List.mem_of_getElem? (i := 456) (by decide +kernel), List.mem_of_getElem? (i := 457) (by decide +kernel)⟩
theorem lw_p22 : lw_okq (⟨"UnitFinderModel", "halve", "(I)V"⟩, 9) := ⟨⟨by decide +kernel, by decide +kernel⟩, List.mem_of_getElem? (i := 406) (by decide +kernel), List.mem_of_getElem? (i := 460) (by decide +kernel), List.mem_of_getElem? (i := 461) (by decide +kernel)⟩
theorem lw_p23 : lw_okq (⟨"UnitFinderModel", "bitsOf", "(I)I"⟩, 9) := ⟨⟨by decide +kernel, by decide +kernel⟩, List.mem_of_getElem? (i := 406) (by decide +kernel), List.mem_of_getElem? (i := 505) (by decide +kernel), List.mem_of_getElem? (i := 506) (by decide +kernel)⟩
theorem lw_p24 : lw_okq (⟨"UnitFinderModel", "sized", "(I)I"⟩, 9) := ⟨⟨by decide +kernel, by decide +kernel⟩, List.mem_of_getElem? (i := 406) (by decide +kernel), List.mem_of_getElem? (i := 509) (by decide +kernel), List.mem_of_getElem? (i := 510) (by decide +kernel)⟩
theorem lw_p25 : lw_okq (⟨"UnitFinderModel", "isBelow", "(I)Z"⟩, 9) := ⟨⟨by decide +kernel, by decide +kernel⟩, List.mem_of_getElem? (i := 406) (by decide +kernel), List.mem_of_getElem? (i := 513) (by decide +kernel), List.mem_of_getElem? (i := 514) (by decide +kernel)⟩
theorem lw_p26 : lw_okq (⟨"UnitFinderModel", "left", "(IJ)J"⟩, 9) := ⟨⟨by decide +kernel, by decide +kernel⟩, List.mem_of_getElem? (i := 406) (by decide +kernel), List.mem_of_getElem? (i := 535) (by decide +kernel), List.mem_of_getElem? (i := 536) (by decide +kernel)⟩
theorem lw_p27 : lw_okq (⟨"UnitFinderModel", "times", "(JJJJJ)V"⟩, 9) := ⟨⟨by decide +kernel, by decide +kernel⟩, List.mem_of_getElem? (i := 406) (by decide +kernel), List.mem_of_getElem? (i := 540) (by decide +kernel), List.mem_of_getElem? (i := 541) (by decide +kernel)⟩
theorem lw_p28 : lw_okq (⟨"UnitFinderModel", "raise", "(I)I"⟩, 9) := ⟨⟨by decide +kernel, by decide +kernel⟩, List.mem_of_getElem? (i := 406) (by decide +kernel), List.mem_of_getElem? (i := 562) (by decide +kernel), List.mem_of_getElem? (i := 563) (by decide +kernel)⟩
def lw_privs_2 : List (MethodName × Nat) := [(⟨"UnitFinderModel", "combine", "(IJIJI)V"⟩, 9), (⟨"UnitFinderModel", "get", "(II)I"⟩, 9), (⟨"UnitFinderModel", "copy", "(II)V"⟩, 9), (⟨"UnitFinderModel", "multiply", "(III)V"⟩, 9), (⟨"UnitFinderModel", "length", "(I)I"⟩, 9), (⟨"UnitFinderModel", "turn", "(JJJ)V"⟩, 9), (⟨"UnitFinderModel", "halve", "(I)V"⟩, 9), (⟨"UnitFinderModel", "bitsOf", "(I)I"⟩, 9), (⟨"UnitFinderModel", "sized", "(I)I"⟩, 9), (⟨"UnitFinderModel", "isBelow", "(I)Z"⟩, 9), (⟨"UnitFinderModel", "left", "(IJ)J"⟩, 9), (⟨"UnitFinderModel", "times", "(JJJJJ)V"⟩, 9), (⟨"UnitFinderModel", "raise", "(I)I"⟩, 9)]
theorem lw_r2 : ∀ q ∈ lw_privs_2, lw_okq q := List.forall_mem_cons.mpr ⟨lw_p16, List.forall_mem_cons.mpr ⟨lw_p17, List.forall_mem_cons.mpr ⟨lw_p18, List.forall_mem_cons.mpr ⟨lw_p19, List.forall_mem_cons.mpr ⟨lw_p20, List.forall_mem_cons.mpr ⟨lw_p21, List.forall_mem_cons.mpr ⟨lw_p22, List.forall_mem_cons.mpr ⟨lw_p23, List.forall_mem_cons.mpr ⟨lw_p24, List.forall_mem_cons.mpr ⟨lw_p25, List.forall_mem_cons.mpr ⟨lw_p26, List.forall_mem_cons.mpr ⟨lw_p27, List.forall_mem_cons.mpr ⟨lw_p28, fun _ h => absurd h List.not_mem_nil⟩⟩⟩⟩⟩⟩⟩⟩⟩⟩⟩⟩⟩
def lw_privs : List (MethodName × Nat) := lw_privs_1 ++ (lw_privs_2)
def lw_tbl : List Cond := k2_sels lw_privs ++ tables_1
theorem lw_privs_ok : ∀ q ∈ lw_privs, lw_okq q := by
  show ∀ q ∈ lw_privs_1 ++ (lw_privs_2), lw_okq q
  exact List.forall_mem_append.mpr ⟨lw_r1, lw_r2⟩
end
section
/-! MY NAMES, by program (wip/whole/make.py): classes, fields, methods, the places of words in the tables -/
/-- the words that every later state keeps -/
def zt : List Cond := lw_tbl.filter goodWord
theorem zt_in {w : Cond} (h : w ∈ zt) : w ∈ lw_tbl := (List.mem_filter.mp h).1
theorem tb_at {w : Cond} (i : Nat) (h : tables_1[i]? = some w) (g : goodWord w = true := by rfl) : w ∈ zt := List.mem_filter.mpr ⟨List.mem_append_right _ (List.mem_of_getElem? h), g⟩
theorem tb_se {w : Cond} (i : Nat) (h : (k2_sels lw_privs)[i]? = some w) (g : goodWord w = true := by rfl) : w ∈ zt := List.mem_filter.mpr ⟨List.mem_append_left _ (List.mem_of_getElem? h), g⟩
def R_U : String := "UnitFinder"
def F_U : u_T := fun k => match k with
  | 0 => ("UnitFinder", "t", "LUnitFinder$Big;", true)
  | 1 => ("UnitFinder", "u", "LUnitFinder$Big;", true)
  | 2 => ("UnitFinder", "p", "LUnitFinder$Big;", true)
  | 3 => ("UnitFinder", "q", "LUnitFinder$Big;", true)
  | 4 => ("UnitFinder", "\x72", "LUnitFinder$Big;", true)
  | 5 => ("UnitFinder", "s", "LUnitFinder$Big;", true)
  | 6 => ("UnitFinder", "minusT", "LUnitFinder$Big;", true)
  | 7 => ("UnitFinder", "minusU", "LUnitFinder$Big;", true)
  | 8 => ("UnitFinder", "recurrence", "LUnitFinder$Recurrence;", true)
  | 9 => ("UnitFinder", "discriminant", "I", false)
  | _ => ("UnitFinder", "ringLength", "I", false)
def t_U : Nat → FieldType := fun k => match k with
  | 0 => .object "UnitFinder$Big"
  | 1 => .object "UnitFinder$Big"
  | 2 => .object "UnitFinder$Big"
  | 3 => .object "UnitFinder$Big"
  | 4 => .object "UnitFinder$Big"
  | 5 => .object "UnitFinder$Big"
  | 6 => .object "UnitFinder$Big"
  | 7 => .object "UnitFinder$Big"
  | 8 => .object "UnitFinder$Recurrence"
  | 9 => .int
  | _ => .int
theorem n_U : ∀ a, a < 11 → ∀ b, b < 11 → a ≠ b → (F_U a).2.1 ≠ (F_U b).2.1 := by decide +kernel
theorem t_U_ok : ∀ k, k < 11 → parseFieldDescriptor (F_U k).2.2.1 = some (t_U k) := by decide +kernel
theorem in_U : ∀ w ∈ u_ws R_U F_U 11, w ∈ zt := by decide +kernel
def R_K : String := "UnitFinder$Recurrence"
def F_K : u_T := fun k => match k with
  | 0 => ("UnitFinder$Recurrence", "last", "LUnitFinder$Big;", true)
  | 1 => ("UnitFinder$Recurrence", "before", "LUnitFinder$Big;", true)
  | 2 => ("UnitFinder$Recurrence", "lastOfLast", "J", false)
  | 3 => ("UnitFinder$Recurrence", "beforeOfLast", "J", false)
  | 4 => ("UnitFinder$Recurrence", "lastOfBefore", "J", false)
  | _ => ("UnitFinder$Recurrence", "beforeOfBefore", "J", false)
def t_K : Nat → FieldType := fun k => match k with
  | 0 => .object "UnitFinder$Big"
  | 1 => .object "UnitFinder$Big"
  | 2 => .long
  | 3 => .long
  | 4 => .long
  | _ => .long
theorem n_K : ∀ a, a < 6 → ∀ b, b < 6 → a ≠ b → (F_K a).2.1 ≠ (F_K b).2.1 := by decide +kernel
theorem t_K_ok : ∀ k, k < 6 → parseFieldDescriptor (F_K k).2.2.1 = some (t_K k) := by decide +kernel
theorem in_K : ∀ w ∈ u_ws R_K F_K 6, w ∈ zt := by decide +kernel
def R_B : String := "UnitFinder$Big"
def F_B : u_T := fun k => match k with
  | 0 => ("UnitFinder$Big", "words", "[I", true)
  | 1 => ("UnitFinder$Big", "length", "I", false)
  | _ => ("UnitFinder$Big", "below", "Z", false)
def t_B : Nat → FieldType := fun k => match k with
  | 0 => .array .int
  | 1 => .int
  | _ => .boolean
theorem n_B : ∀ a, a < 3 → ∀ b, b < 3 → a ≠ b → (F_B a).2.1 ≠ (F_B b).2.1 := by decide +kernel
theorem t_B_ok : ∀ k, k < 3 → parseFieldDescriptor (F_B k).2.2.1 = some (t_B k) := by decide +kernel
theorem in_B : ∀ w ∈ u_ws R_B F_B 3, w ∈ zt := by decide +kernel
def R_M : String := "UnitFinderModel"
def F_M : u_T := fun k => match k with
  | 0 => ("UnitFinderModel", "code", "I", false)
  | 1 => ("UnitFinderModel", "d", "J", false)
  | 2 => ("UnitFinderModel", "ring", "I", false)
  | 3 => ("UnitFinderModel", "minus", "Z", false)
  | 4 => ("UnitFinderModel", "rows", "[I", true)
  | 5 => ("UnitFinderModel", "x", "J", false)
  | 6 => ("UnitFinderModel", "y", "J", false)
  | 7 => ("UnitFinderModel", "z", "J", false)
  | _ => ("UnitFinderModel", "v", "J", false)
def t_M : Nat → FieldType := fun k => match k with
  | 0 => .int
  | 1 => .long
  | 2 => .int
  | 3 => .boolean
  | 4 => .array .int
  | 5 => .long
  | 6 => .long
  | 7 => .long
  | _ => .long
theorem n_M : ∀ a, a < 9 → ∀ b, b < 9 → a ≠ b → (F_M a).2.1 ≠ (F_M b).2.1 := by decide +kernel
theorem t_M_ok : ∀ k, k < 9 → parseFieldDescriptor (F_M k).2.2.1 = some (t_M k) := by decide +kernel
theorem in_M : ∀ w ∈ u_ws R_M F_M 9, w ∈ zt := by decide +kernel
def R_L : String := "UnitFinderLaw"
def R_JM : String := "java/lang/Math"
def R_JI : String := "java/lang/Integer"
abbrev vwCl : List vw_C := [(R_U, F_U, 11), (R_K, F_K, 6), (R_B, F_B, 3), (R_M, F_M, 9)]
abbrev b_U_init : ByteArray := prog_1_method_1_code
def y_U_init : MethodName := ⟨R_U, "<init>", "()V"⟩
abbrev b_U_take : ByteArray := prog_1_method_2_code
def y_U_take : MethodName := ⟨R_U, "take", "(I)I"⟩
abbrev b_U_count : ByteArray := prog_1_method_3_code
def y_U_count : MethodName := ⟨R_U, "count", "(I)I"⟩
abbrev b_U_ask : ByteArray := prog_1_method_4_code
def y_U_ask : MethodName := ⟨R_U, "ask", "(III)V"⟩
abbrev b_U_power : ByteArray := prog_1_method_5_code
def y_U_power : MethodName := ⟨R_U, "power", "(III)I"⟩
abbrev b_U_sign : ByteArray := prog_1_method_6_code
def y_U_sign : MethodName := ⟨R_U, "sign", "(I)I"⟩
abbrev b_U_bits : ByteArray := prog_1_method_7_code
def y_U_bits : MethodName := ⟨R_U, "bits", "(I)I"⟩
abbrev b_U_word : ByteArray := prog_1_method_8_code
def y_U_word : MethodName := ⟨R_U, "word", "(II)I"⟩
abbrev b_U_residue : ByteArray := prog_1_method_9_code
def y_U_residue : MethodName := ⟨R_U, "residue", "(II)I"⟩
abbrev b_U_numberAt : ByteArray := prog_1_method_10_code
def y_U_numberAt : MethodName := ⟨R_U, "numberAt", "(I)LUnitFinder$Big;"⟩
abbrev b_U_canBeTaken : ByteArray := prog_1_method_11_code
def y_U_canBeTaken : MethodName := ⟨R_U, "canBeTaken", "(I)Z"⟩
abbrev b_U_rootOf : ByteArray := prog_1_method_12_code
def y_U_rootOf : MethodName := ⟨R_U, "rootOf", "(I)I"⟩
abbrev b_U_countUnits : ByteArray := prog_1_method_13_code
def y_U_countUnits : MethodName := ⟨R_U, "countUnits", "()I"⟩
abbrev b_U_isCoefficient : ByteArray := prog_1_method_14_code
def y_U_isCoefficient : MethodName := ⟨R_U, "isCoefficient", "(I)Z"⟩
abbrev b_U_commonDivisor : ByteArray := prog_1_method_15_code
def y_U_commonDivisor : MethodName := ⟨R_U, "commonDivisor", "(II)I"⟩
abbrev b_U_become : ByteArray := prog_1_method_16_code
def y_U_become : MethodName := ⟨R_U, "become", "(I)V"⟩
abbrev b_U_setUnitBelow : ByteArray := prog_1_method_17_code
def y_U_setUnitBelow : MethodName := ⟨R_U, "setUnitBelow", "(I)V"⟩
abbrev b_U_findUnitAbove : ByteArray := prog_1_method_18_code
def y_U_findUnitAbove : MethodName := ⟨R_U, "findUnitAbove", "(I)V"⟩
abbrev b_U_walkToOne : ByteArray := prog_1_method_19_code
def y_U_walkToOne : MethodName := ⟨R_U, "walkToOne", "(I)I"⟩
abbrev b_U_makeAutomorph : ByteArray := prog_1_method_20_code
def y_U_makeAutomorph : MethodName := ⟨R_U, "makeAutomorph", "(III)V"⟩
abbrev b_M_init : ByteArray := prog_5_method_1_code
def y_M_init : MethodName := ⟨R_M, "<init>", "()V"⟩
abbrev b_M_thrown : ByteArray := prog_5_method_2_code
def y_M_thrown : MethodName := ⟨R_M, "thrown", "()I"⟩
abbrev b_M_raise : ByteArray := prog_5_method_3_code
def y_M_raise : MethodName := ⟨R_M, "raise", "(I)I"⟩
abbrev b_M_in : ByteArray := prog_5_method_4_code
def y_M_in : MethodName := ⟨R_M, "in", "(JJJ)Z"⟩
abbrev b_M_wholeRoot : ByteArray := prog_5_method_5_code
def y_M_wholeRoot : MethodName := ⟨R_M, "wholeRoot", "(J)J"⟩
abbrev b_M_get : ByteArray := prog_5_method_6_code
def y_M_get : MethodName := ⟨R_M, "get", "(II)I"⟩
abbrev b_M_put : ByteArray := prog_5_method_7_code
def y_M_put : MethodName := ⟨R_M, "put", "(III)V"⟩
abbrev b_M_be : ByteArray := prog_5_method_8_code
def y_M_be : MethodName := ⟨R_M, "be", "(IJ)V"⟩
abbrev b_M_copy : ByteArray := prog_5_method_9_code
def y_M_copy : MethodName := ⟨R_M, "copy", "(II)V"⟩
abbrev b_M_combine : ByteArray := prog_5_method_10_code
def y_M_combine : MethodName := ⟨R_M, "combine", "(IJIJI)V"⟩
abbrev b_M_halve : ByteArray := prog_5_method_11_code
def y_M_halve : MethodName := ⟨R_M, "halve", "(I)V"⟩
abbrev b_M_multiply : ByteArray := prog_5_method_12_code
def y_M_multiply : MethodName := ⟨R_M, "multiply", "(III)V"⟩
abbrev b_M_length : ByteArray := prog_5_method_13_code
def y_M_length : MethodName := ⟨R_M, "length", "(I)I"⟩
abbrev b_M_isBelow : ByteArray := prog_5_method_14_code
def y_M_isBelow : MethodName := ⟨R_M, "isBelow", "(I)Z"⟩
abbrev b_M_begin : ByteArray := prog_5_method_15_code
def y_M_begin : MethodName := ⟨R_M, "begin", "(J)V"⟩
abbrev b_M_find : ByteArray := prog_5_method_16_code
def y_M_find : MethodName := ⟨R_M, "find", "()V"⟩
abbrev b_M_turn : ByteArray := prog_5_method_17_code
def y_M_turn : MethodName := ⟨R_M, "turn", "(JJJ)V"⟩
abbrev b_M_take : ByteArray := prog_5_method_18_code
def y_M_take : MethodName := ⟨R_M, "take", "(I)I"⟩
abbrev b_M_count : ByteArray := prog_5_method_19_code
def y_M_count : MethodName := ⟨R_M, "count", "(I)I"⟩
abbrev b_M_common : ByteArray := prog_5_method_20_code
def y_M_common : MethodName := ⟨R_M, "common", "(JJ)J"⟩
abbrev b_M_ask : ByteArray := prog_5_method_21_code
def y_M_ask : MethodName := ⟨R_M, "ask", "(III)V"⟩
abbrev b_M_times : ByteArray := prog_5_method_22_code
def y_M_times : MethodName := ⟨R_M, "times", "(JJJJJ)V"⟩
abbrev b_M_power : ByteArray := prog_5_method_23_code
def y_M_power : MethodName := ⟨R_M, "power", "(III)I"⟩
abbrev b_M_sized : ByteArray := prog_5_method_24_code
def y_M_sized : MethodName := ⟨R_M, "sized", "(I)I"⟩
abbrev b_M_bitsOf : ByteArray := prog_5_method_25_code
def y_M_bitsOf : MethodName := ⟨R_M, "bitsOf", "(I)I"⟩
abbrev b_M_left : ByteArray := prog_5_method_26_code
def y_M_left : MethodName := ⟨R_M, "left", "(IJ)J"⟩
abbrev b_M_sign : ByteArray := prog_5_method_27_code
def y_M_sign : MethodName := ⟨R_M, "sign", "(I)I"⟩
abbrev b_M_bits : ByteArray := prog_5_method_28_code
def y_M_bits : MethodName := ⟨R_M, "bits", "(I)I"⟩
abbrev b_M_word : ByteArray := prog_5_method_29_code
def y_M_word : MethodName := ⟨R_M, "word", "(II)I"⟩
abbrev b_M_residue : ByteArray := prog_5_method_30_code
def y_M_residue : MethodName := ⟨R_M, "residue", "(II)I"⟩
abbrev b_B_init : ByteArray := prog_2_method_1_code
def y_B_init : MethodName := ⟨R_B, "<init>", "()V"⟩
abbrev b_B_set : ByteArray := prog_2_method_2_code
def y_B_set : MethodName := ⟨R_B, "set", "(I)V"⟩
abbrev b_B_copy : ByteArray := prog_2_method_3_code
def y_B_copy : MethodName := ⟨R_B, "copy", "(LUnitFinder$Big;)V"⟩
abbrev b_B_signum : ByteArray := prog_2_method_4_code
def y_B_signum : MethodName := ⟨R_B, "signum", "()I"⟩
abbrev b_B_countBits : ByteArray := prog_2_method_5_code
def y_B_countBits : MethodName := ⟨R_B, "countBits", "()I"⟩
abbrev b_B_wordAt : ByteArray := prog_2_method_6_code
def y_B_wordAt : MethodName := ⟨R_B, "wordAt", "(I)I"⟩
abbrev b_B_modulo : ByteArray := prog_2_method_7_code
def y_B_modulo : MethodName := ⟨R_B, "modulo", "(I)J"⟩
abbrev b_B_close : ByteArray := prog_2_method_8_code
def y_B_close : MethodName := ⟨R_B, "close", "(IJ)V"⟩
abbrev b_B_setTimes : ByteArray := prog_2_method_9_code
def y_B_setTimes : MethodName := ⟨R_B, "setTimes", "(LUnitFinder$Big;I)V"⟩
abbrev b_B_setProduct : ByteArray := prog_2_method_10_code
def y_B_setProduct : MethodName := ⟨R_B, "setProduct", "(LUnitFinder$Big;LUnitFinder$Big;)V"⟩
abbrev b_B_addRow : ByteArray := prog_2_method_11_code
def y_B_addRow : MethodName := ⟨R_B, "addRow", "(JLUnitFinder$Big;I)V"⟩
abbrev b_B_addSmall : ByteArray := prog_2_method_12_code
def y_B_addSmall : MethodName := ⟨R_B, "addSmall", "(I)V"⟩
abbrev b_B_setSum : ByteArray := prog_2_method_13_code
def y_B_setSum : MethodName := ⟨R_B, "setSum", "(LUnitFinder$Big;LUnitFinder$Big;)V"⟩
abbrev b_B_setDifference : ByteArray := prog_2_method_14_code
def y_B_setDifference : MethodName := ⟨R_B, "setDifference", "(LUnitFinder$Big;LUnitFinder$Big;)V"⟩
abbrev b_B_isLess : ByteArray := prog_2_method_15_code
def y_B_isLess : MethodName := ⟨R_B, "isLess", "(LUnitFinder$Big;)Z"⟩
abbrev b_B_halve : ByteArray := prog_2_method_16_code
def y_B_halve : MethodName := ⟨R_B, "halve", "()V"⟩
abbrev b_K_init : ByteArray := prog_3_method_1_code
def y_K_init : MethodName := ⟨R_K, "<init>", "()V"⟩
abbrev b_K_start : ByteArray := prog_3_method_2_code
def y_K_start : MethodName := ⟨R_K, "start", "()V"⟩
abbrev b_K_step : ByteArray := prog_3_method_3_code
def y_K_step : MethodName := ⟨R_K, "step", "(I)V"⟩
abbrev b_K_finish : ByteArray := prog_3_method_4_code
def y_K_finish : MethodName := ⟨R_K, "finish", "(I)V"⟩
abbrev b_K_gatherNothing : ByteArray := prog_3_method_5_code
def y_K_gatherNothing : MethodName := ⟨R_K, "gatherNothing", "()V"⟩
abbrev b_K_settle : ByteArray := prog_3_method_6_code
def y_K_settle : MethodName := ⟨R_K, "settle", "()V"⟩
abbrev b_L_take : ByteArray := method_3_code
def y_L_take : MethodName := ⟨R_L, "take", "(LUnitFinder;I[J)I"⟩
abbrev b_L_ask : ByteArray := method_4_code
def y_L_ask : MethodName := ⟨R_L, "ask", "(LUnitFinder;III)I"⟩
abbrev b_L_power : ByteArray := method_5_code
def y_L_power : MethodName := ⟨R_L, "power", "(LUnitFinder;III[J)I"⟩
abbrev b_L_sign : ByteArray := method_6_code
def y_L_sign : MethodName := ⟨R_L, "sign", "(LUnitFinder;I[J)I"⟩
abbrev b_L_bits : ByteArray := method_7_code
def y_L_bits : MethodName := ⟨R_L, "bits", "(LUnitFinder;I[J)I"⟩
abbrev b_L_word : ByteArray := method_8_code
def y_L_word : MethodName := ⟨R_L, "word", "(LUnitFinder;II[J)I"⟩
abbrev b_L_residue : ByteArray := method_9_code
def y_L_residue : MethodName := ⟨R_L, "residue", "(LUnitFinder;II[J)I"⟩
abbrev b_JM_abs : ByteArray := prog_10_method_59_code
def y_JM_abs : MethodName := ⟨R_JM, "abs", "(I)I"⟩
abbrev b_JM_absl : ByteArray := prog_10_method_61_code
def y_JM_absl : MethodName := ⟨R_JM, "abs", "(J)J"⟩
abbrev b_JM_floorMod : ByteArray := prog_10_method_52_code
def y_JM_floorMod : MethodName := ⟨R_JM, "floorMod", "(JJ)J"⟩
abbrev b_JM_max : ByteArray := prog_10_method_65_code
def y_JM_max : MethodName := ⟨R_JM, "max", "(II)I"⟩
abbrev b_JM_min : ByteArray := prog_10_method_69_code
def y_JM_min : MethodName := ⟨R_JM, "min", "(II)I"⟩
abbrev b_JI_numberOfLeadingZeros : ByteArray := prog_9_method_47_code
def y_JI_numberOfLeadingZeros : MethodName := ⟨R_JI, "numberOfLeadingZeros", "(I)I"⟩
end
section
theorem k_L_38 : Cond.methodLink R_L 38 y_U_init ∈ zt := tb_at 15 (by decide +kernel)
theorem k_U_1 : Cond.methodLink R_U 1 objectInit ∈ zt := tb_at 18 (by decide +kernel)
theorem k_U_9 : Cond.methodLink R_U 9 y_B_init ∈ zt := tb_at 23 (by decide +kernel)
theorem k_B_3 : Cond.methodLink R_B 3 objectInit ∈ zt := tb_at 26 (by decide +kernel)
theorem k_B_9 : Cond.fieldLink R_B 9 R_B "words" "[I" ∈ zt := tb_at 27 (by decide +kernel)
theorem k_B_23 : Cond.fieldLink R_B 23 R_B "length" "I" ∈ zt := tb_at 29 (by decide +kernel)
theorem k_B_15 : Cond.fieldLink R_B 15 R_B "below" "Z" ∈ zt := tb_at 31 (by decide +kernel)
theorem k_U_39 : Cond.methodLink R_U 39 y_K_init ∈ zt := tb_at 42 (by decide +kernel)
theorem k_K_3 : Cond.methodLink R_K 3 objectInit ∈ zt := tb_at 45 (by decide +kernel)
theorem k_K_11 : Cond.methodLink R_K 11 y_B_init ∈ zt := tb_at 47 (by decide +kernel)
theorem k_K_12 : Cond.fieldLink R_K 12 R_K "last" "LUnitFinder$Big;" ∈ zt := tb_at 48 (by decide +kernel)
theorem k_K_18 : Cond.fieldLink R_K 18 R_K "before" "LUnitFinder$Big;" ∈ zt := tb_at 50 (by decide +kernel)
theorem k_K_28 : Cond.fieldLink R_K 28 R_K "lastOfLast" "J" ∈ zt := tb_at 52 (by decide +kernel)
theorem k_K_37 : Cond.fieldLink R_K 37 R_K "beforeOfLast" "J" ∈ zt := tb_at 53 (by decide +kernel)
theorem k_K_32 : Cond.fieldLink R_K 32 R_K "lastOfBefore" "J" ∈ zt := tb_at 54 (by decide +kernel)
theorem k_K_40 : Cond.fieldLink R_K 40 R_K "beforeOfBefore" "J" ∈ zt := tb_at 55 (by decide +kernel)
theorem k_U_44 : Cond.methodLink R_U 44 y_U_become ∈ zt := tb_at 69 (by decide +kernel)
theorem k_U_136 : Cond.methodLink R_U 136 y_U_findUnitAbove ∈ zt := tb_at 73 (by decide +kernel)
theorem k_U_145 : Cond.methodLink R_U 145 y_U_walkToOne ∈ zt := tb_at 77 (by decide +kernel)
theorem k_U_128 : Cond.methodLink R_U 128 y_U_rootOf ∈ zt := tb_at 81 (by decide +kernel)
theorem k_U_165 : Cond.methodLink R_U 165 y_K_start ∈ zt := tb_at 84 (by decide +kernel)
theorem k_K_21 : Cond.methodLink R_K 21 y_B_set ∈ zt := tb_at 88 (by decide +kernel)
theorem k_B_19 : Cond.methodLink R_B 19 y_B_close ∈ zt := tb_at 92 (by decide +kernel)
theorem k_K_25 : Cond.methodLink R_K 25 y_K_gatherNothing ∈ zt := tb_at 96 (by decide +kernel)
theorem k_U_168 : Cond.constant R_U 168 (1000000) ∈ zt := tb_at 100 (by decide +kernel)
theorem k_U_169 : Cond.methodLink R_U 169 y_K_step ∈ zt := tb_at 101 (by decide +kernel)
theorem k_K_35 : Cond.constantLong R_K 35 (1073741824) ∈ zt := tb_at 105 (by decide +kernel)
theorem k_K_43 : Cond.methodLink R_K 43 y_K_settle ∈ zt := tb_at 106 (by decide +kernel)
theorem k_K_52 : Cond.methodLink R_K 52 Lib.Math.max.name ∈ zt := tb_at 110 (by decide +kernel)
theorem k_K_58 : Cond.methodLink R_K 58 y_B_wordAt ∈ zt := tb_at 113 (by decide +kernel)
theorem k_K_62 : Cond.constantLong R_K 62 (4294967295) ∈ zt := tb_at 117 (by decide +kernel)
theorem k_K_68 : Cond.methodLink R_K 68 y_B_close ∈ zt := tb_at 118 (by decide +kernel)
theorem k_U_172 : Cond.methodLink R_U 172 y_K_finish ∈ zt := tb_at 119 (by decide +kernel)
theorem k_K_46 : Cond.constantLong R_K 46 (2) ∈ zt := tb_at 123 (by decide +kernel)
theorem k_U_154 : Cond.methodLink R_U 154 y_B_copy ∈ zt := tb_at 124 (by decide +kernel)
theorem k_B_27 : Cond.methodLink R_B 27 arraycopyName ∈ zt := tb_at 128 (by decide +kernel)
theorem k_U_158 : Cond.methodLink R_U 158 y_B_setProduct ∈ zt := tb_at 131 (by decide +kernel)
theorem k_B_47 : Cond.methodLink R_B 47 Lib.Math.min.name ∈ zt := tb_at 135 (by decide +kernel)
theorem k_B_39 : Cond.constantLong R_B 39 (4294967295) ∈ zt := tb_at 138 (by decide +kernel)
theorem k_B_51 : Cond.methodLink R_B 51 y_B_addRow ∈ zt := tb_at 139 (by decide +kernel)
theorem k_U_162 : Cond.methodLink R_U 162 y_B_addSmall ∈ zt := tb_at 143 (by decide +kernel)
theorem k_U_142 : Cond.methodLink R_U 142 y_B_set ∈ zt := tb_at 147 (by decide +kernel)
theorem k_U_139 : Cond.methodLink R_U 139 y_U_setUnitBelow ∈ zt := tb_at 148 (by decide +kernel)
theorem k_U_91 : Cond.methodLink R_U 91 y_U_makeAutomorph ∈ zt := tb_at 152 (by decide +kernel)
theorem k_U_175 : Cond.methodLink R_U 175 y_B_setTimes ∈ zt := tb_at 156 (by decide +kernel)
theorem k_B_41 : Cond.methodLink R_B 41 Lib.MathLoose.abs_long.x ∈ zt := tb_at 160 (by decide +kernel)
theorem k_U_133 : Cond.methodLink R_U 133 Lib.Math.abs.name ∈ zt := tb_at 163 (by decide +kernel)
theorem k_U_179 : Cond.methodLink R_U 179 y_B_setDifference ∈ zt := tb_at 166 (by decide +kernel)
theorem k_B_61 : Cond.methodLink R_B 61 y_B_isLess ∈ zt := tb_at 170 (by decide +kernel)
theorem k_B_58 : Cond.methodLink R_B 58 y_B_wordAt ∈ zt := tb_at 174 (by decide +kernel)
theorem k_U_182 : Cond.methodLink R_U 182 y_B_setSum ∈ zt := tb_at 175 (by decide +kernel)
theorem k_B_55 : Cond.methodLink R_B 55 Lib.Math.max.name ∈ zt := tb_at 179 (by decide +kernel)
theorem k_U_185 : Cond.methodLink R_U 185 y_B_halve ∈ zt := tb_at 180 (by decide +kernel)
theorem k_U_10 : Cond.fieldLink R_U 10 R_U "t" "LUnitFinder$Big;" ∈ zt := tb_at 184 (by decide +kernel)
theorem k_U_16 : Cond.fieldLink R_U 16 R_U "u" "LUnitFinder$Big;" ∈ zt := tb_at 185 (by decide +kernel)
theorem k_U_19 : Cond.fieldLink R_U 19 R_U "p" "LUnitFinder$Big;" ∈ zt := tb_at 186 (by decide +kernel)
theorem k_U_22 : Cond.fieldLink R_U 22 R_U "q" "LUnitFinder$Big;" ∈ zt := tb_at 187 (by decide +kernel)
theorem k_U_25 : Cond.fieldLink R_U 25 R_U "\x72" "LUnitFinder$Big;" ∈ zt := tb_at 188 (by decide +kernel)
theorem k_U_28 : Cond.fieldLink R_U 28 R_U "s" "LUnitFinder$Big;" ∈ zt := tb_at 189 (by decide +kernel)
theorem k_U_31 : Cond.fieldLink R_U 31 R_U "minusT" "LUnitFinder$Big;" ∈ zt := tb_at 190 (by decide +kernel)
theorem k_U_34 : Cond.fieldLink R_U 34 R_U "minusU" "LUnitFinder$Big;" ∈ zt := tb_at 191 (by decide +kernel)
theorem k_U_40 : Cond.fieldLink R_U 40 R_U "recurrence" "LUnitFinder$Recurrence;" ∈ zt := tb_at 192 (by decide +kernel)
theorem k_U_63 : Cond.fieldLink R_U 63 R_U "discriminant" "I" ∈ zt := tb_at 193 (by decide +kernel)
theorem k_U_67 : Cond.fieldLink R_U 67 R_U "ringLength" "I" ∈ zt := tb_at 194 (by decide +kernel)
theorem k_L_52 : Cond.methodLink R_L 52 y_U_count ∈ zt := tb_at 218 (by decide +kernel)
theorem k_U_70 : Cond.methodLink R_U 70 y_B_signum ∈ zt := tb_at 222 (by decide +kernel)
theorem k_U_73 : Cond.methodLink R_U 73 y_U_countUnits ∈ zt := tb_at 226 (by decide +kernel)
theorem k_L_42 : Cond.methodLink R_L 42 y_L_take ∈ zt := tb_at 230 (by decide +kernel)
theorem k_L_7 : Cond.methodLink R_L 7 y_U_take ∈ zt := tb_at 234 (by decide +kernel)
theorem k_U_48 : Cond.methodLink R_U 48 y_U_canBeTaken ∈ zt := tb_at 238 (by decide +kernel)
theorem k_U_126 : Cond.constant R_U 126 (-1048576) ∈ zt := tb_at 241 (by decide +kernel)
theorem k_U_127 : Cond.constant R_U 127 (1048576) ∈ zt := tb_at 242 (by decide +kernel)
theorem k_U_59 : Cond.methodLink R_U 59 y_B_countBits ∈ zt := tb_at 310 (by decide +kernel)
theorem k_B_33 : Cond.methodLink R_B 33 y_JI_numberOfLeadingZeros ∈ zt := tb_at 314 (by decide +kernel)
theorem k_JI_264 : Cond.constant R_JI 264 (65536) ∈ zt := tb_at 317 (by decide +kernel)
theorem k_L_56 : Cond.methodLink R_L 56 y_L_ask ∈ zt := tb_at 318 (by decide +kernel)
theorem k_L_15 : Cond.methodLink R_L 15 y_U_ask ∈ zt := tb_at 321 (by decide +kernel)
theorem k_U_76 : Cond.methodLink R_U 76 y_U_isCoefficient ∈ zt := tb_at 325 (by decide +kernel)
theorem k_U_131 : Cond.constant R_U 131 (-1073741824) ∈ zt := tb_at 328 (by decide +kernel)
theorem k_U_132 : Cond.constant R_U 132 (1073741824) ∈ zt := tb_at 329 (by decide +kernel)
theorem k_U_81 : Cond.constantLong R_U 81 (4) ∈ zt := tb_at 331 (by decide +kernel)
theorem k_U_85 : Cond.methodLink R_U 85 y_U_commonDivisor ∈ zt := tb_at 333 (by decide +kernel)
theorem k_L_60 : Cond.methodLink R_L 60 y_L_power ∈ zt := tb_at 337 (by decide +kernel)
theorem k_L_19 : Cond.methodLink R_L 19 y_U_power ∈ zt := tb_at 340 (by decide +kernel)
theorem k_U_97 : Cond.methodLink R_U 97 y_B_modulo ∈ zt := tb_at 345 (by decide +kernel)
theorem k_U_101 : Cond.constantLong R_U 101 (2) ∈ zt := tb_at 349 (by decide +kernel)
theorem k_U_103 : Cond.methodLink R_U 103 y_JM_floorMod ∈ zt := tb_at 350 (by decide +kernel)
theorem k_L_64 : Cond.methodLink R_L 64 y_L_sign ∈ zt := tb_at 353 (by decide +kernel)
theorem k_L_23 : Cond.methodLink R_L 23 y_U_sign ∈ zt := tb_at 357 (by decide +kernel)
theorem k_U_109 : Cond.methodLink R_U 109 y_U_numberAt ∈ zt := tb_at 361 (by decide +kernel)
theorem k_L_67 : Cond.methodLink R_L 67 y_L_bits ∈ zt := tb_at 381 (by decide +kernel)
theorem k_L_28 : Cond.methodLink R_L 28 y_U_bits ∈ zt := tb_at 384 (by decide +kernel)
theorem k_L_70 : Cond.methodLink R_L 70 y_L_word ∈ zt := tb_at 388 (by decide +kernel)
theorem k_L_31 : Cond.methodLink R_L 31 y_U_word ∈ zt := tb_at 391 (by decide +kernel)
theorem k_U_118 : Cond.methodLink R_U 118 y_B_wordAt ∈ zt := tb_at 396 (by decide +kernel)
theorem k_L_74 : Cond.methodLink R_L 74 y_L_residue ∈ zt := tb_at 397 (by decide +kernel)
theorem k_L_35 : Cond.methodLink R_L 35 y_U_residue ∈ zt := tb_at 400 (by decide +kernel)
theorem k_L_41 : Cond.methodLink R_L 41 y_M_init ∈ zt := tb_at 407 (by decide +kernel)
theorem k_M_1 : Cond.methodLink R_M 1 objectInit ∈ zt := tb_at 410 (by decide +kernel)
theorem k_M_7 : Cond.constantLong R_M 7 (-4) ∈ zt := tb_at 411 (by decide +kernel)
theorem k_M_19 : Cond.methodLink R_M 19 y_M_begin ∈ zt := tb_at 412 (by decide +kernel)
theorem k_M_48 : Cond.methodLink R_M 48 y_M_be ∈ zt := tb_at 416 (by decide +kernel)
theorem k_M_27 : Cond.constantLong R_M 27 (65535) ∈ zt := tb_at 420 (by decide +kernel)
theorem k_M_29 : Cond.methodLink R_M 29 y_M_put ∈ zt := tb_at 421 (by decide +kernel)
theorem k_M_52 : Cond.constantLong R_M 52 (-3) ∈ zt := tb_at 425 (by decide +kernel)
theorem k_M_54 : Cond.constantLong R_M 54 (2) ∈ zt := tb_at 426 (by decide +kernel)
theorem k_M_56 : Cond.methodLink R_M 56 y_M_find ∈ zt := tb_at 427 (by decide +kernel)
theorem k_M_65 : Cond.methodLink R_M 65 y_M_wholeRoot ∈ zt := tb_at 431 (by decide +kernel)
theorem k_M_69 : Cond.methodLink R_M 69 y_M_combine ∈ zt := tb_at 434 (by decide +kernel)
theorem k_M_33 : Cond.methodLink R_M 33 y_M_get ∈ zt := tb_at 438 (by decide +kernel)
theorem k_M_73 : Cond.methodLink R_M 73 y_M_copy ∈ zt := tb_at 442 (by decide +kernel)
theorem k_M_77 : Cond.methodLink R_M 77 y_M_multiply ∈ zt := tb_at 446 (by decide +kernel)
theorem k_M_37 : Cond.methodLink R_M 37 y_M_length ∈ zt := tb_at 450 (by decide +kernel)
theorem k_M_59 : Cond.constantLong R_M 59 (4) ∈ zt := tb_at 454 (by decide +kernel)
theorem k_M_61 : Cond.methodLink R_M 61 y_M_turn ∈ zt := tb_at 455 (by decide +kernel)
theorem k_M_80 : Cond.methodLink R_M 80 y_M_halve ∈ zt := tb_at 459 (by decide +kernel)
theorem k_M_23 : Cond.fieldLink R_M 23 R_M "code" "I" ∈ zt := tb_at 463 (by decide +kernel)
theorem k_M_9 : Cond.fieldLink R_M 9 R_M "d" "J" ∈ zt := tb_at 464 (by decide +kernel)
theorem k_M_41 : Cond.fieldLink R_M 41 R_M "ring" "I" ∈ zt := tb_at 465 (by decide +kernel)
theorem k_M_44 : Cond.fieldLink R_M 44 R_M "minus" "Z" ∈ zt := tb_at 466 (by decide +kernel)
theorem k_M_15 : Cond.fieldLink R_M 15 R_M "rows" "[I" ∈ zt := tb_at 467 (by decide +kernel)
theorem k_M_103 : Cond.fieldLink R_M 103 R_M "x" "J" ∈ zt := tb_at 468 (by decide +kernel)
theorem k_M_106 : Cond.fieldLink R_M 106 R_M "y" "J" ∈ zt := tb_at 469 (by decide +kernel)
theorem k_M_109 : Cond.fieldLink R_M 109 R_M "z" "J" ∈ zt := tb_at 470 (by decide +kernel)
theorem k_M_112 : Cond.fieldLink R_M 112 R_M "v" "J" ∈ zt := tb_at 471 (by decide +kernel)
theorem k_L_48 : Cond.methodLink R_L 48 y_M_thrown ∈ zt := tb_at 491 (by decide +kernel)
theorem k_L_47 : Cond.methodLink R_L 47 y_M_take ∈ zt := tb_at 495 (by decide +kernel)
theorem k_M_84 : Cond.constantLong R_M 84 (-1048576) ∈ zt := tb_at 499 (by decide +kernel)
theorem k_M_86 : Cond.constantLong R_M 86 (1048576) ∈ zt := tb_at 500 (by decide +kernel)
theorem k_M_88 : Cond.methodLink R_M 88 y_M_in ∈ zt := tb_at 501 (by decide +kernel)
theorem k_M_92 : Cond.methodLink R_M 92 y_M_bitsOf ∈ zt := tb_at 504 (by decide +kernel)
theorem k_M_129 : Cond.methodLink R_M 129 y_M_sized ∈ zt := tb_at 508 (by decide +kernel)
theorem k_M_123 : Cond.methodLink R_M 123 y_M_isBelow ∈ zt := tb_at 512 (by decide +kernel)
theorem k_M_127 : Cond.constantLong R_M 127 (-1) ∈ zt := tb_at 516 (by decide +kernel)
theorem k_L_55 : Cond.methodLink R_L 55 y_M_count ∈ zt := tb_at 517 (by decide +kernel)
theorem k_L_59 : Cond.methodLink R_L 59 y_M_ask ∈ zt := tb_at 521 (by decide +kernel)
theorem k_M_95 : Cond.constantLong R_M 95 (-1073741824) ∈ zt := tb_at 525 (by decide +kernel)
theorem k_M_97 : Cond.constantLong R_M 97 (1073741824) ∈ zt := tb_at 526 (by decide +kernel)
theorem k_M_99 : Cond.methodLink R_M 99 y_M_common ∈ zt := tb_at 527 (by decide +kernel)
theorem k_L_63 : Cond.methodLink R_L 63 y_M_power ∈ zt := tb_at 530 (by decide +kernel)
theorem k_M_115 : Cond.methodLink R_M 115 y_M_left ∈ zt := tb_at 534 (by decide +kernel)
theorem k_M_132 : Cond.constantLong R_M 132 (65536) ∈ zt := tb_at 538 (by decide +kernel)
theorem k_M_119 : Cond.methodLink R_M 119 y_M_times ∈ zt := tb_at 539 (by decide +kernel)
theorem k_L_66 : Cond.methodLink R_L 66 y_M_sign ∈ zt := tb_at 543 (by decide +kernel)
theorem k_M_134 : Cond.constantLong R_M 134 (7) ∈ zt := tb_at 547 (by decide +kernel)
theorem k_L_69 : Cond.methodLink R_L 69 y_M_bits ∈ zt := tb_at 548 (by decide +kernel)
theorem k_L_73 : Cond.methodLink R_L 73 y_M_word ∈ zt := tb_at 552 (by decide +kernel)
theorem k_M_136 : Cond.constantLong R_M 136 (511) ∈ zt := tb_at 556 (by decide +kernel)
theorem k_L_76 : Cond.methodLink R_L 76 y_M_residue ∈ zt := tb_at 557 (by decide +kernel)
theorem k_M_138 : Cond.methodLink R_M 138 y_M_raise ∈ zt := tb_at 561 (by decide +kernel)
theorem q_math : Cond.initialized "java/lang/Math" ∈ zt := tb_at 4 (by decide +kernel)
theorem q_max_st : Cond.static Lib.Math.max.name ∈ zt := tb_at 111 (by decide +kernel)
theorem q_min_st : Cond.static Lib.Math.min.name ∈ zt := tb_at 136 (by decide +kernel)
theorem q_abs_st : Cond.static Lib.Math.abs.name ∈ zt := tb_at 164 (by decide +kernel)
theorem q_absl_st : Cond.static Lib.MathLoose.abs_long.x ∈ zt := tb_at 161 (by decide +kernel)
theorem q_max_co : Cond.code Lib.Math.max.name Lib.Math.max.code 2 (some .int) ∈ zt := tb_at 112 (by decide +kernel)
theorem q_min_co : Cond.code Lib.Math.min.name Lib.Math.min.code 2 (some .int) ∈ zt := tb_at 137 (by decide +kernel)
theorem q_abs_co : Cond.code Lib.Math.abs.name Lib.Math.abs.code 1 (some .int) ∈ zt := tb_at 165 (by decide +kernel)
theorem q_absl_co : Cond.code Lib.MathLoose.abs_long.x Lib.MathLoose.abs_long.code 2 (some .long) ∈ zt := tb_at 162 (by decide +kernel)
theorem q_acopy_nat : Cond.native arraycopyName ∈ zt := tb_at 130 (by decide +kernel)
theorem q_acopy_st : Cond.static arraycopyName ∈ zt := tb_at 129 (by decide +kernel)
theorem q_acopy_in : Cond.initialized "java/lang/System" ∈ zt := tb_at 5 (by decide +kernel)
theorem q_arrI : Cond.arrayClass .int ∈ zt := tb_at 39 (by decide +kernel)
theorem q_in_U : Cond.initialized R_U ∈ zt := tb_at 1 (by decide +kernel)
theorem q_in_K : Cond.initialized R_K ∈ zt := tb_at 3 (by decide +kernel)
theorem q_in_B : Cond.initialized R_B ∈ zt := tb_at 2 (by decide +kernel)
theorem q_in_M : Cond.initialized R_M ∈ zt := tb_at 6 (by decide +kernel)
theorem q_in_L : Cond.initialized R_L ∈ zt := tb_at 0 (by decide +kernel)
theorem q_in_JM : Cond.initialized R_JM ∈ zt := tb_at 4 (by decide +kernel)
theorem q_in_JI : Cond.initialized R_JI ∈ zt := tb_at 11 (by decide +kernel)
end
section
/-! the words of a call of each method -/
theorem zgood {y : MethodName} {b : ByteArray} {n : Nat} {r : Option FieldType} (h : Cond.code y b n r ∈ zt) : GoodIn zt (Cond.code y b n r :: zt) := fun w hw => by
  have hm : w ∈ zt := (List.mem_cons.mp hw).elim (fun e => e ▸ h) id
  exact ⟨hm, good_of_word (List.mem_filter.mp hm).2⟩
theorem w_U_init_co : Cond.code y_U_init b_U_init 1 none ∈ zt := tb_at 17 (by decide +kernel)
theorem w_U_init_im : Cond.instanceMethod y_U_init ∈ zt := tb_at 16 (by decide +kernel)
theorem w_U_take_co : Cond.code y_U_take b_U_take 2 (some .int) ∈ zt := tb_at 237 (by decide +kernel)
theorem w_U_take_im : Cond.instanceMethod y_U_take ∈ zt := tb_at 235 (by decide +kernel)
theorem w_U_take_se : Cond.selects R_U y_U_take y_U_take ∈ zt := tb_at 236 (by decide +kernel)
theorem w_U_take_cw {R : Room} {s : State} {args : Array Value} {own : String} {index : Nat} {rm : Room} (hts : ∀ w ∈ zt, w.before args s = true) (hl : Cond.methodLink own index y_U_take ∈ zt) (hrc : rm.cells = 0) (hrs : rm.slots = 0) (hR : rm.frames + 1 ≤ R.frames ∧ 8 + (2 + 11) + rm.locals ≤ R.locals) : CallW R s args own R_U index y_U_take b_U_take 2 (some .int) (Cond.code y_U_take b_U_take 2 (some .int) :: zt) rm 0 0 1 := ⟨callB_of 1 hts (zgood w_U_take_co) rfl hrc hrs (hts _ q_in_U) (hts _ hl) (by decide +kernel) hR, hts _ w_U_take_im, hts _ w_U_take_se⟩
theorem w_U_count_co : Cond.code y_U_count b_U_count 2 (some .int) ∈ zt := tb_at 221 (by decide +kernel)
theorem w_U_count_im : Cond.instanceMethod y_U_count ∈ zt := tb_at 219 (by decide +kernel)
theorem w_U_count_se : Cond.selects R_U y_U_count y_U_count ∈ zt := tb_at 220 (by decide +kernel)
theorem w_U_count_cw {R : Room} {s : State} {args : Array Value} {own : String} {index : Nat} {rm : Room} (hts : ∀ w ∈ zt, w.before args s = true) (hl : Cond.methodLink own index y_U_count ∈ zt) (hrc : rm.cells = 0) (hrs : rm.slots = 0) (hR : rm.frames + 1 ≤ R.frames ∧ 8 + (2 + 11) + rm.locals ≤ R.locals) : CallW R s args own R_U index y_U_count b_U_count 2 (some .int) (Cond.code y_U_count b_U_count 2 (some .int) :: zt) rm 0 0 1 := ⟨callB_of 1 hts (zgood w_U_count_co) rfl hrc hrs (hts _ q_in_U) (hts _ hl) (by decide +kernel) hR, hts _ w_U_count_im, hts _ w_U_count_se⟩
theorem w_U_ask_co : Cond.code y_U_ask b_U_ask 4 none ∈ zt := tb_at 324 (by decide +kernel)
theorem w_U_ask_im : Cond.instanceMethod y_U_ask ∈ zt := tb_at 322 (by decide +kernel)
theorem w_U_ask_se : Cond.selects R_U y_U_ask y_U_ask ∈ zt := tb_at 323 (by decide +kernel)
theorem w_U_ask_cw {R : Room} {s : State} {args : Array Value} {own : String} {index : Nat} {rm : Room} (hts : ∀ w ∈ zt, w.before args s = true) (hl : Cond.methodLink own index y_U_ask ∈ zt) (hrc : rm.cells = 0) (hrs : rm.slots = 0) (hR : rm.frames + 1 ≤ R.frames ∧ 8 + (4 + 11) + rm.locals ≤ R.locals) : CallW R s args own R_U index y_U_ask b_U_ask 4 none (Cond.code y_U_ask b_U_ask 4 none :: zt) rm 0 0 3 := ⟨callB_of 3 hts (zgood w_U_ask_co) rfl hrc hrs (hts _ q_in_U) (hts _ hl) (by decide +kernel) hR, hts _ w_U_ask_im, hts _ w_U_ask_se⟩
theorem w_U_power_co : Cond.code y_U_power b_U_power 15 (some .int) ∈ zt := tb_at 343 (by decide +kernel)
theorem w_U_power_im : Cond.instanceMethod y_U_power ∈ zt := tb_at 341 (by decide +kernel)
theorem w_U_power_se : Cond.selects R_U y_U_power y_U_power ∈ zt := tb_at 342 (by decide +kernel)
theorem w_U_power_cw {R : Room} {s : State} {args : Array Value} {own : String} {index : Nat} {rm : Room} (hts : ∀ w ∈ zt, w.before args s = true) (hl : Cond.methodLink own index y_U_power ∈ zt) (hrc : rm.cells = 0) (hrs : rm.slots = 0) (hR : rm.frames + 1 ≤ R.frames ∧ 8 + (15 + 11) + rm.locals ≤ R.locals) : CallW R s args own R_U index y_U_power b_U_power 15 (some .int) (Cond.code y_U_power b_U_power 15 (some .int) :: zt) rm 0 0 3 := ⟨callB_of 3 hts (zgood w_U_power_co) rfl hrc hrs (hts _ q_in_U) (hts _ hl) (by decide +kernel) hR, hts _ w_U_power_im, hts _ w_U_power_se⟩
theorem w_U_sign_co : Cond.code y_U_sign b_U_sign 2 (some .int) ∈ zt := tb_at 360 (by decide +kernel)
theorem w_U_sign_im : Cond.instanceMethod y_U_sign ∈ zt := tb_at 358 (by decide +kernel)
theorem w_U_sign_se : Cond.selects R_U y_U_sign y_U_sign ∈ zt := tb_at 359 (by decide +kernel)
theorem w_U_sign_cw {R : Room} {s : State} {args : Array Value} {own : String} {index : Nat} {rm : Room} (hts : ∀ w ∈ zt, w.before args s = true) (hl : Cond.methodLink own index y_U_sign ∈ zt) (hrc : rm.cells = 0) (hrs : rm.slots = 0) (hR : rm.frames + 1 ≤ R.frames ∧ 8 + (2 + 11) + rm.locals ≤ R.locals) : CallW R s args own R_U index y_U_sign b_U_sign 2 (some .int) (Cond.code y_U_sign b_U_sign 2 (some .int) :: zt) rm 0 0 1 := ⟨callB_of 1 hts (zgood w_U_sign_co) rfl hrc hrs (hts _ q_in_U) (hts _ hl) (by decide +kernel) hR, hts _ w_U_sign_im, hts _ w_U_sign_se⟩
theorem w_U_bits_co : Cond.code y_U_bits b_U_bits 2 (some .int) ∈ zt := tb_at 387 (by decide +kernel)
theorem w_U_bits_im : Cond.instanceMethod y_U_bits ∈ zt := tb_at 385 (by decide +kernel)
theorem w_U_bits_se : Cond.selects R_U y_U_bits y_U_bits ∈ zt := tb_at 386 (by decide +kernel)
theorem w_U_bits_cw {R : Room} {s : State} {args : Array Value} {own : String} {index : Nat} {rm : Room} (hts : ∀ w ∈ zt, w.before args s = true) (hl : Cond.methodLink own index y_U_bits ∈ zt) (hrc : rm.cells = 0) (hrs : rm.slots = 0) (hR : rm.frames + 1 ≤ R.frames ∧ 8 + (2 + 11) + rm.locals ≤ R.locals) : CallW R s args own R_U index y_U_bits b_U_bits 2 (some .int) (Cond.code y_U_bits b_U_bits 2 (some .int) :: zt) rm 0 0 1 := ⟨callB_of 1 hts (zgood w_U_bits_co) rfl hrc hrs (hts _ q_in_U) (hts _ hl) (by decide +kernel) hR, hts _ w_U_bits_im, hts _ w_U_bits_se⟩
theorem w_U_word_co : Cond.code y_U_word b_U_word 4 (some .int) ∈ zt := tb_at 394 (by decide +kernel)
theorem w_U_word_im : Cond.instanceMethod y_U_word ∈ zt := tb_at 392 (by decide +kernel)
theorem w_U_word_se : Cond.selects R_U y_U_word y_U_word ∈ zt := tb_at 393 (by decide +kernel)
theorem w_U_word_cw {R : Room} {s : State} {args : Array Value} {own : String} {index : Nat} {rm : Room} (hts : ∀ w ∈ zt, w.before args s = true) (hl : Cond.methodLink own index y_U_word ∈ zt) (hrc : rm.cells = 0) (hrs : rm.slots = 0) (hR : rm.frames + 1 ≤ R.frames ∧ 8 + (4 + 11) + rm.locals ≤ R.locals) : CallW R s args own R_U index y_U_word b_U_word 4 (some .int) (Cond.code y_U_word b_U_word 4 (some .int) :: zt) rm 0 0 2 := ⟨callB_of 2 hts (zgood w_U_word_co) rfl hrc hrs (hts _ q_in_U) (hts _ hl) (by decide +kernel) hR, hts _ w_U_word_im, hts _ w_U_word_se⟩
theorem w_U_residue_co : Cond.code y_U_residue b_U_residue 4 (some .int) ∈ zt := tb_at 403 (by decide +kernel)
theorem w_U_residue_im : Cond.instanceMethod y_U_residue ∈ zt := tb_at 401 (by decide +kernel)
theorem w_U_residue_se : Cond.selects R_U y_U_residue y_U_residue ∈ zt := tb_at 402 (by decide +kernel)
theorem w_U_residue_cw {R : Room} {s : State} {args : Array Value} {own : String} {index : Nat} {rm : Room} (hts : ∀ w ∈ zt, w.before args s = true) (hl : Cond.methodLink own index y_U_residue ∈ zt) (hrc : rm.cells = 0) (hrs : rm.slots = 0) (hR : rm.frames + 1 ≤ R.frames ∧ 8 + (4 + 11) + rm.locals ≤ R.locals) : CallW R s args own R_U index y_U_residue b_U_residue 4 (some .int) (Cond.code y_U_residue b_U_residue 4 (some .int) :: zt) rm 0 0 2 := ⟨callB_of 2 hts (zgood w_U_residue_co) rfl hrc hrs (hts _ q_in_U) (hts _ hl) (by decide +kernel) hR, hts _ w_U_residue_im, hts _ w_U_residue_se⟩
theorem w_U_numberAt_co : Cond.code y_U_numberAt b_U_numberAt 2 (some (.object "UnitFinder$Big")) ∈ zt := tb_at 364 (by decide +kernel)
theorem w_U_numberAt_im : Cond.instanceMethod y_U_numberAt ∈ zt := tb_at 363 (by decide +kernel)
theorem w_U_numberAt_se : Cond.selects R_U y_U_numberAt y_U_numberAt ∈ zt := tb_se 11 (by decide +kernel)
theorem w_U_numberAt_cw {R : Room} {s : State} {args : Array Value} {own : String} {index : Nat} {rm : Room} (hts : ∀ w ∈ zt, w.before args s = true) (hl : Cond.methodLink own index y_U_numberAt ∈ zt) (hrc : rm.cells = 0) (hrs : rm.slots = 0) (hR : rm.frames + 1 ≤ R.frames ∧ 8 + (2 + 11) + rm.locals ≤ R.locals) : CallW R s args own R_U index y_U_numberAt b_U_numberAt 2 (some (.object "UnitFinder$Big")) (Cond.code y_U_numberAt b_U_numberAt 2 (some (.object "UnitFinder$Big")) :: zt) rm 0 0 1 := ⟨callB_of 1 hts (zgood w_U_numberAt_co) rfl hrc hrs (hts _ q_in_U) (hts _ hl) (by decide +kernel) hR, hts _ w_U_numberAt_im, hts _ w_U_numberAt_se⟩
theorem w_U_canBeTaken_co : Cond.code y_U_canBeTaken b_U_canBeTaken 2 (some .boolean) ∈ zt := tb_at 240 (by decide +kernel)
theorem w_U_canBeTaken_st : Cond.static y_U_canBeTaken ∈ zt := tb_at 239 (by decide +kernel)
theorem w_U_canBeTaken_cw {R : Room} {s : State} {args : Array Value} {own : String} {index : Nat} {rm : Room} (hts : ∀ w ∈ zt, w.before args s = true) (hl : Cond.methodLink own index y_U_canBeTaken ∈ zt) (hrc : rm.cells = 0) (hrs : rm.slots = 0) (hR : rm.frames + 1 ≤ R.frames ∧ 8 + (2 + 11) + rm.locals ≤ R.locals) : CallB R s args own index y_U_canBeTaken b_U_canBeTaken 2 (some .boolean) (Cond.code y_U_canBeTaken b_U_canBeTaken 2 (some .boolean) :: zt) rm 0 0 1 ∧ (Cond.static y_U_canBeTaken).before args s = true := ⟨callB_of 1 hts (zgood w_U_canBeTaken_co) rfl hrc hrs (hts _ q_in_U) (hts _ hl) (by decide +kernel) hR, hts _ w_U_canBeTaken_st⟩
theorem w_U_rootOf_co : Cond.code y_U_rootOf b_U_rootOf 4 (some .int) ∈ zt := tb_at 83 (by decide +kernel)
theorem w_U_rootOf_st : Cond.static y_U_rootOf ∈ zt := tb_at 82 (by decide +kernel)
theorem w_U_rootOf_cw {R : Room} {s : State} {args : Array Value} {own : String} {index : Nat} {rm : Room} (hts : ∀ w ∈ zt, w.before args s = true) (hl : Cond.methodLink own index y_U_rootOf ∈ zt) (hrc : rm.cells = 0) (hrs : rm.slots = 0) (hR : rm.frames + 1 ≤ R.frames ∧ 8 + (4 + 11) + rm.locals ≤ R.locals) : CallB R s args own index y_U_rootOf b_U_rootOf 4 (some .int) (Cond.code y_U_rootOf b_U_rootOf 4 (some .int) :: zt) rm 0 0 1 ∧ (Cond.static y_U_rootOf).before args s = true := ⟨callB_of 1 hts (zgood w_U_rootOf_co) rfl hrc hrs (hts _ q_in_U) (hts _ hl) (by decide +kernel) hR, hts _ w_U_rootOf_st⟩
theorem w_U_countUnits_co : Cond.code y_U_countUnits b_U_countUnits 1 (some .int) ∈ zt := tb_at 229 (by decide +kernel)
theorem w_U_countUnits_im : Cond.instanceMethod y_U_countUnits ∈ zt := tb_at 228 (by decide +kernel)
theorem w_U_countUnits_se : Cond.selects R_U y_U_countUnits y_U_countUnits ∈ zt := tb_se 9 (by decide +kernel)
theorem w_U_countUnits_cw {R : Room} {s : State} {args : Array Value} {own : String} {index : Nat} {rm : Room} (hts : ∀ w ∈ zt, w.before args s = true) (hl : Cond.methodLink own index y_U_countUnits ∈ zt) (hrc : rm.cells = 0) (hrs : rm.slots = 0) (hR : rm.frames + 1 ≤ R.frames ∧ 8 + (1 + 11) + rm.locals ≤ R.locals) : CallW R s args own R_U index y_U_countUnits b_U_countUnits 1 (some .int) (Cond.code y_U_countUnits b_U_countUnits 1 (some .int) :: zt) rm 0 0 0 := ⟨callB_of 0 hts (zgood w_U_countUnits_co) rfl hrc hrs (hts _ q_in_U) (hts _ hl) (by decide +kernel) hR, hts _ w_U_countUnits_im, hts _ w_U_countUnits_se⟩
theorem w_U_isCoefficient_co : Cond.code y_U_isCoefficient b_U_isCoefficient 1 (some .boolean) ∈ zt := tb_at 327 (by decide +kernel)
theorem w_U_isCoefficient_st : Cond.static y_U_isCoefficient ∈ zt := tb_at 326 (by decide +kernel)
theorem w_U_isCoefficient_cw {R : Room} {s : State} {args : Array Value} {own : String} {index : Nat} {rm : Room} (hts : ∀ w ∈ zt, w.before args s = true) (hl : Cond.methodLink own index y_U_isCoefficient ∈ zt) (hrc : rm.cells = 0) (hrs : rm.slots = 0) (hR : rm.frames + 1 ≤ R.frames ∧ 8 + (1 + 11) + rm.locals ≤ R.locals) : CallB R s args own index y_U_isCoefficient b_U_isCoefficient 1 (some .boolean) (Cond.code y_U_isCoefficient b_U_isCoefficient 1 (some .boolean) :: zt) rm 0 0 1 ∧ (Cond.static y_U_isCoefficient).before args s = true := ⟨callB_of 1 hts (zgood w_U_isCoefficient_co) rfl hrc hrs (hts _ q_in_U) (hts _ hl) (by decide +kernel) hR, hts _ w_U_isCoefficient_st⟩
theorem w_U_commonDivisor_co : Cond.code y_U_commonDivisor b_U_commonDivisor 6 (some .int) ∈ zt := tb_at 335 (by decide +kernel)
theorem w_U_commonDivisor_st : Cond.static y_U_commonDivisor ∈ zt := tb_at 334 (by decide +kernel)
theorem w_U_commonDivisor_cw {R : Room} {s : State} {args : Array Value} {own : String} {index : Nat} {rm : Room} (hts : ∀ w ∈ zt, w.before args s = true) (hl : Cond.methodLink own index y_U_commonDivisor ∈ zt) (hrc : rm.cells = 0) (hrs : rm.slots = 0) (hR : rm.frames + 1 ≤ R.frames ∧ 8 + (6 + 11) + rm.locals ≤ R.locals) : CallB R s args own index y_U_commonDivisor b_U_commonDivisor 6 (some .int) (Cond.code y_U_commonDivisor b_U_commonDivisor 6 (some .int) :: zt) rm 0 0 2 ∧ (Cond.static y_U_commonDivisor).before args s = true := ⟨callB_of 2 hts (zgood w_U_commonDivisor_co) rfl hrc hrs (hts _ q_in_U) (hts _ hl) (by decide +kernel) hR, hts _ w_U_commonDivisor_st⟩
theorem w_U_become_co : Cond.code y_U_become b_U_become 3 none ∈ zt := tb_at 72 (by decide +kernel)
theorem w_U_become_im : Cond.instanceMethod y_U_become ∈ zt := tb_at 71 (by decide +kernel)
theorem w_U_become_se : Cond.selects R_U y_U_become y_U_become ∈ zt := tb_se 0 (by decide +kernel)
theorem w_U_become_cw {R : Room} {s : State} {args : Array Value} {own : String} {index : Nat} {rm : Room} (hts : ∀ w ∈ zt, w.before args s = true) (hl : Cond.methodLink own index y_U_become ∈ zt) (hrc : rm.cells = 0) (hrs : rm.slots = 0) (hR : rm.frames + 1 ≤ R.frames ∧ 8 + (3 + 11) + rm.locals ≤ R.locals) : CallW R s args own R_U index y_U_become b_U_become 3 none (Cond.code y_U_become b_U_become 3 none :: zt) rm 0 0 1 := ⟨callB_of 1 hts (zgood w_U_become_co) rfl hrc hrs (hts _ q_in_U) (hts _ hl) (by decide +kernel) hR, hts _ w_U_become_im, hts _ w_U_become_se⟩
theorem w_U_setUnitBelow_co : Cond.code y_U_setUnitBelow b_U_setUnitBelow 2 none ∈ zt := tb_at 151 (by decide +kernel)
theorem w_U_setUnitBelow_im : Cond.instanceMethod y_U_setUnitBelow ∈ zt := tb_at 150 (by decide +kernel)
theorem w_U_setUnitBelow_se : Cond.selects R_U y_U_setUnitBelow y_U_setUnitBelow ∈ zt := tb_se 6 (by decide +kernel)
theorem w_U_setUnitBelow_cw {R : Room} {s : State} {args : Array Value} {own : String} {index : Nat} {rm : Room} (hts : ∀ w ∈ zt, w.before args s = true) (hl : Cond.methodLink own index y_U_setUnitBelow ∈ zt) (hrc : rm.cells = 0) (hrs : rm.slots = 0) (hR : rm.frames + 1 ≤ R.frames ∧ 8 + (2 + 11) + rm.locals ≤ R.locals) : CallW R s args own R_U index y_U_setUnitBelow b_U_setUnitBelow 2 none (Cond.code y_U_setUnitBelow b_U_setUnitBelow 2 none :: zt) rm 0 0 1 := ⟨callB_of 1 hts (zgood w_U_setUnitBelow_co) rfl hrc hrs (hts _ q_in_U) (hts _ hl) (by decide +kernel) hR, hts _ w_U_setUnitBelow_im, hts _ w_U_setUnitBelow_se⟩
theorem w_U_findUnitAbove_co : Cond.code y_U_findUnitAbove b_U_findUnitAbove 5 none ∈ zt := tb_at 76 (by decide +kernel)
theorem w_U_findUnitAbove_im : Cond.instanceMethod y_U_findUnitAbove ∈ zt := tb_at 75 (by decide +kernel)
theorem w_U_findUnitAbove_se : Cond.selects R_U y_U_findUnitAbove y_U_findUnitAbove ∈ zt := tb_se 1 (by decide +kernel)
theorem w_U_findUnitAbove_cw {R : Room} {s : State} {args : Array Value} {own : String} {index : Nat} {rm : Room} (hts : ∀ w ∈ zt, w.before args s = true) (hl : Cond.methodLink own index y_U_findUnitAbove ∈ zt) (hrc : rm.cells = 0) (hrs : rm.slots = 0) (hR : rm.frames + 1 ≤ R.frames ∧ 8 + (5 + 11) + rm.locals ≤ R.locals) : CallW R s args own R_U index y_U_findUnitAbove b_U_findUnitAbove 5 none (Cond.code y_U_findUnitAbove b_U_findUnitAbove 5 none :: zt) rm 0 0 1 := ⟨callB_of 1 hts (zgood w_U_findUnitAbove_co) rfl hrc hrs (hts _ q_in_U) (hts _ hl) (by decide +kernel) hR, hts _ w_U_findUnitAbove_im, hts _ w_U_findUnitAbove_se⟩
theorem w_U_walkToOne_co : Cond.code y_U_walkToOne b_U_walkToOne 8 (some .int) ∈ zt := tb_at 80 (by decide +kernel)
theorem w_U_walkToOne_im : Cond.instanceMethod y_U_walkToOne ∈ zt := tb_at 79 (by decide +kernel)
theorem w_U_walkToOne_se : Cond.selects R_U y_U_walkToOne y_U_walkToOne ∈ zt := tb_se 2 (by decide +kernel)
theorem w_U_walkToOne_cw {R : Room} {s : State} {args : Array Value} {own : String} {index : Nat} {rm : Room} (hts : ∀ w ∈ zt, w.before args s = true) (hl : Cond.methodLink own index y_U_walkToOne ∈ zt) (hrc : rm.cells = 0) (hrs : rm.slots = 0) (hR : rm.frames + 1 ≤ R.frames ∧ 8 + (8 + 11) + rm.locals ≤ R.locals) : CallW R s args own R_U index y_U_walkToOne b_U_walkToOne 8 (some .int) (Cond.code y_U_walkToOne b_U_walkToOne 8 (some .int) :: zt) rm 0 0 1 := ⟨callB_of 1 hts (zgood w_U_walkToOne_co) rfl hrc hrs (hts _ q_in_U) (hts _ hl) (by decide +kernel) hR, hts _ w_U_walkToOne_im, hts _ w_U_walkToOne_se⟩
theorem w_U_makeAutomorph_co : Cond.code y_U_makeAutomorph b_U_makeAutomorph 6 none ∈ zt := tb_at 155 (by decide +kernel)
theorem w_U_makeAutomorph_im : Cond.instanceMethod y_U_makeAutomorph ∈ zt := tb_at 154 (by decide +kernel)
theorem w_U_makeAutomorph_se : Cond.selects R_U y_U_makeAutomorph y_U_makeAutomorph ∈ zt := tb_se 7 (by decide +kernel)
theorem w_U_makeAutomorph_cw {R : Room} {s : State} {args : Array Value} {own : String} {index : Nat} {rm : Room} (hts : ∀ w ∈ zt, w.before args s = true) (hl : Cond.methodLink own index y_U_makeAutomorph ∈ zt) (hrc : rm.cells = 0) (hrs : rm.slots = 0) (hR : rm.frames + 1 ≤ R.frames ∧ 8 + (6 + 11) + rm.locals ≤ R.locals) : CallW R s args own R_U index y_U_makeAutomorph b_U_makeAutomorph 6 none (Cond.code y_U_makeAutomorph b_U_makeAutomorph 6 none :: zt) rm 0 0 3 := ⟨callB_of 3 hts (zgood w_U_makeAutomorph_co) rfl hrc hrs (hts _ q_in_U) (hts _ hl) (by decide +kernel) hR, hts _ w_U_makeAutomorph_im, hts _ w_U_makeAutomorph_se⟩
theorem w_M_init_co : Cond.code y_M_init b_M_init 1 none ∈ zt := tb_at 409 (by decide +kernel)
theorem w_M_init_im : Cond.instanceMethod y_M_init ∈ zt := tb_at 408 (by decide +kernel)
theorem w_M_thrown_co : Cond.code y_M_thrown b_M_thrown 1 (some .int) ∈ zt := tb_at 494 (by decide +kernel)
theorem w_M_thrown_im : Cond.instanceMethod y_M_thrown ∈ zt := tb_at 492 (by decide +kernel)
theorem w_M_thrown_se : Cond.selects R_M y_M_thrown y_M_thrown ∈ zt := tb_at 493 (by decide +kernel)
theorem w_M_thrown_cw {R : Room} {s : State} {args : Array Value} {own : String} {index : Nat} {rm : Room} (hts : ∀ w ∈ zt, w.before args s = true) (hl : Cond.methodLink own index y_M_thrown ∈ zt) (hrc : rm.cells = 0) (hrs : rm.slots = 0) (hR : rm.frames + 1 ≤ R.frames ∧ 8 + (1 + 11) + rm.locals ≤ R.locals) : CallW R s args own R_M index y_M_thrown b_M_thrown 1 (some .int) (Cond.code y_M_thrown b_M_thrown 1 (some .int) :: zt) rm 0 0 0 := ⟨callB_of 0 hts (zgood w_M_thrown_co) rfl hrc hrs (hts _ q_in_M) (hts _ hl) (by decide +kernel) hR, hts _ w_M_thrown_im, hts _ w_M_thrown_se⟩
theorem w_M_raise_co : Cond.code y_M_raise b_M_raise 2 (some .int) ∈ zt := tb_at 564 (by decide +kernel)
theorem w_M_raise_im : Cond.instanceMethod y_M_raise ∈ zt := tb_at 563 (by decide +kernel)
theorem w_M_raise_se : Cond.selects R_M y_M_raise y_M_raise ∈ zt := tb_se 28 (by decide +kernel)
theorem w_M_raise_cw {R : Room} {s : State} {args : Array Value} {own : String} {index : Nat} {rm : Room} (hts : ∀ w ∈ zt, w.before args s = true) (hl : Cond.methodLink own index y_M_raise ∈ zt) (hrc : rm.cells = 0) (hrs : rm.slots = 0) (hR : rm.frames + 1 ≤ R.frames ∧ 8 + (2 + 11) + rm.locals ≤ R.locals) : CallW R s args own R_M index y_M_raise b_M_raise 2 (some .int) (Cond.code y_M_raise b_M_raise 2 (some .int) :: zt) rm 0 0 1 := ⟨callB_of 1 hts (zgood w_M_raise_co) rfl hrc hrs (hts _ q_in_M) (hts _ hl) (by decide +kernel) hR, hts _ w_M_raise_im, hts _ w_M_raise_se⟩
theorem w_M_in_co : Cond.code y_M_in b_M_in 6 (some .boolean) ∈ zt := tb_at 503 (by decide +kernel)
theorem w_M_in_st : Cond.static y_M_in ∈ zt := tb_at 502 (by decide +kernel)
theorem w_M_in_cw {R : Room} {s : State} {args : Array Value} {own : String} {index : Nat} {rm : Room} (hts : ∀ w ∈ zt, w.before args s = true) (hl : Cond.methodLink own index y_M_in ∈ zt) (hrc : rm.cells = 0) (hrs : rm.slots = 0) (hR : rm.frames + 1 ≤ R.frames ∧ 8 + (6 + 11) + rm.locals ≤ R.locals) : CallB R s args own index y_M_in b_M_in 6 (some .boolean) (Cond.code y_M_in b_M_in 6 (some .boolean) :: zt) rm 0 0 3 ∧ (Cond.static y_M_in).before args s = true := ⟨callB_of 3 hts (zgood w_M_in_co) rfl hrc hrs (hts _ q_in_M) (hts _ hl) (by decide +kernel) hR, hts _ w_M_in_st⟩
theorem w_M_wholeRoot_co : Cond.code y_M_wholeRoot b_M_wholeRoot 4 (some .long) ∈ zt := tb_at 433 (by decide +kernel)
theorem w_M_wholeRoot_st : Cond.static y_M_wholeRoot ∈ zt := tb_at 432 (by decide +kernel)
theorem w_M_wholeRoot_cw {R : Room} {s : State} {args : Array Value} {own : String} {index : Nat} {rm : Room} (hts : ∀ w ∈ zt, w.before args s = true) (hl : Cond.methodLink own index y_M_wholeRoot ∈ zt) (hrc : rm.cells = 0) (hrs : rm.slots = 0) (hR : rm.frames + 1 ≤ R.frames ∧ 8 + (4 + 11) + rm.locals ≤ R.locals) : CallB R s args own index y_M_wholeRoot b_M_wholeRoot 4 (some .long) (Cond.code y_M_wholeRoot b_M_wholeRoot 4 (some .long) :: zt) rm 0 0 1 ∧ (Cond.static y_M_wholeRoot).before args s = true := ⟨callB_of 1 hts (zgood w_M_wholeRoot_co) rfl hrc hrs (hts _ q_in_M) (hts _ hl) (by decide +kernel) hR, hts _ w_M_wholeRoot_st⟩
theorem w_M_get_co : Cond.code y_M_get b_M_get 3 (some .int) ∈ zt := tb_at 441 (by decide +kernel)
theorem w_M_get_im : Cond.instanceMethod y_M_get ∈ zt := tb_at 440 (by decide +kernel)
theorem w_M_get_se : Cond.selects R_M y_M_get y_M_get ∈ zt := tb_se 17 (by decide +kernel)
theorem w_M_get_cw {R : Room} {s : State} {args : Array Value} {own : String} {index : Nat} {rm : Room} (hts : ∀ w ∈ zt, w.before args s = true) (hl : Cond.methodLink own index y_M_get ∈ zt) (hrc : rm.cells = 0) (hrs : rm.slots = 0) (hR : rm.frames + 1 ≤ R.frames ∧ 8 + (3 + 11) + rm.locals ≤ R.locals) : CallW R s args own R_M index y_M_get b_M_get 3 (some .int) (Cond.code y_M_get b_M_get 3 (some .int) :: zt) rm 0 0 2 := ⟨callB_of 2 hts (zgood w_M_get_co) rfl hrc hrs (hts _ q_in_M) (hts _ hl) (by decide +kernel) hR, hts _ w_M_get_im, hts _ w_M_get_se⟩
theorem w_M_put_co : Cond.code y_M_put b_M_put 4 none ∈ zt := tb_at 424 (by decide +kernel)
theorem w_M_put_im : Cond.instanceMethod y_M_put ∈ zt := tb_at 423 (by decide +kernel)
theorem w_M_put_se : Cond.selects R_M y_M_put y_M_put ∈ zt := tb_se 14 (by decide +kernel)
theorem w_M_put_cw {R : Room} {s : State} {args : Array Value} {own : String} {index : Nat} {rm : Room} (hts : ∀ w ∈ zt, w.before args s = true) (hl : Cond.methodLink own index y_M_put ∈ zt) (hrc : rm.cells = 0) (hrs : rm.slots = 0) (hR : rm.frames + 1 ≤ R.frames ∧ 8 + (4 + 11) + rm.locals ≤ R.locals) : CallW R s args own R_M index y_M_put b_M_put 4 none (Cond.code y_M_put b_M_put 4 none :: zt) rm 0 0 3 := ⟨callB_of 3 hts (zgood w_M_put_co) rfl hrc hrs (hts _ q_in_M) (hts _ hl) (by decide +kernel) hR, hts _ w_M_put_im, hts _ w_M_put_se⟩
theorem w_M_be_co : Cond.code y_M_be b_M_be 5 none ∈ zt := tb_at 419 (by decide +kernel)
theorem w_M_be_im : Cond.instanceMethod y_M_be ∈ zt := tb_at 418 (by decide +kernel)
theorem w_M_be_se : Cond.selects R_M y_M_be y_M_be ∈ zt := tb_se 13 (by decide +kernel)
theorem w_M_be_cw {R : Room} {s : State} {args : Array Value} {own : String} {index : Nat} {rm : Room} (hts : ∀ w ∈ zt, w.before args s = true) (hl : Cond.methodLink own index y_M_be ∈ zt) (hrc : rm.cells = 0) (hrs : rm.slots = 0) (hR : rm.frames + 1 ≤ R.frames ∧ 8 + (5 + 11) + rm.locals ≤ R.locals) : CallW R s args own R_M index y_M_be b_M_be 5 none (Cond.code y_M_be b_M_be 5 none :: zt) rm 0 0 2 := ⟨callB_of 2 hts (zgood w_M_be_co) rfl hrc hrs (hts _ q_in_M) (hts _ hl) (by decide +kernel) hR, hts _ w_M_be_im, hts _ w_M_be_se⟩
theorem w_M_copy_co : Cond.code y_M_copy b_M_copy 4 none ∈ zt := tb_at 445 (by decide +kernel)
theorem w_M_copy_im : Cond.instanceMethod y_M_copy ∈ zt := tb_at 444 (by decide +kernel)
theorem w_M_copy_se : Cond.selects R_M y_M_copy y_M_copy ∈ zt := tb_se 18 (by decide +kernel)
theorem w_M_copy_cw {R : Room} {s : State} {args : Array Value} {own : String} {index : Nat} {rm : Room} (hts : ∀ w ∈ zt, w.before args s = true) (hl : Cond.methodLink own index y_M_copy ∈ zt) (hrc : rm.cells = 0) (hrs : rm.slots = 0) (hR : rm.frames + 1 ≤ R.frames ∧ 8 + (4 + 11) + rm.locals ≤ R.locals) : CallW R s args own R_M index y_M_copy b_M_copy 4 none (Cond.code y_M_copy b_M_copy 4 none :: zt) rm 0 0 2 := ⟨callB_of 2 hts (zgood w_M_copy_co) rfl hrc hrs (hts _ q_in_M) (hts _ hl) (by decide +kernel) hR, hts _ w_M_copy_im, hts _ w_M_copy_se⟩
theorem w_M_combine_co : Cond.code y_M_combine b_M_combine 13 none ∈ zt := tb_at 437 (by decide +kernel)
theorem w_M_combine_im : Cond.instanceMethod y_M_combine ∈ zt := tb_at 436 (by decide +kernel)
theorem w_M_combine_se : Cond.selects R_M y_M_combine y_M_combine ∈ zt := tb_se 16 (by decide +kernel)
theorem w_M_combine_cw {R : Room} {s : State} {args : Array Value} {own : String} {index : Nat} {rm : Room} (hts : ∀ w ∈ zt, w.before args s = true) (hl : Cond.methodLink own index y_M_combine ∈ zt) (hrc : rm.cells = 0) (hrs : rm.slots = 0) (hR : rm.frames + 1 ≤ R.frames ∧ 8 + (13 + 11) + rm.locals ≤ R.locals) : CallW R s args own R_M index y_M_combine b_M_combine 13 none (Cond.code y_M_combine b_M_combine 13 none :: zt) rm 0 0 5 := ⟨callB_of 5 hts (zgood w_M_combine_co) rfl hrc hrs (hts _ q_in_M) (hts _ hl) (by decide +kernel) hR, hts _ w_M_combine_im, hts _ w_M_combine_se⟩
theorem w_M_halve_co : Cond.code y_M_halve b_M_halve 4 none ∈ zt := tb_at 462 (by decide +kernel)
theorem w_M_halve_im : Cond.instanceMethod y_M_halve ∈ zt := tb_at 461 (by decide +kernel)
theorem w_M_halve_se : Cond.selects R_M y_M_halve y_M_halve ∈ zt := tb_se 22 (by decide +kernel)
theorem w_M_halve_cw {R : Room} {s : State} {args : Array Value} {own : String} {index : Nat} {rm : Room} (hts : ∀ w ∈ zt, w.before args s = true) (hl : Cond.methodLink own index y_M_halve ∈ zt) (hrc : rm.cells = 0) (hrs : rm.slots = 0) (hR : rm.frames + 1 ≤ R.frames ∧ 8 + (4 + 11) + rm.locals ≤ R.locals) : CallW R s args own R_M index y_M_halve b_M_halve 4 none (Cond.code y_M_halve b_M_halve 4 none :: zt) rm 0 0 1 := ⟨callB_of 1 hts (zgood w_M_halve_co) rfl hrc hrs (hts _ q_in_M) (hts _ hl) (by decide +kernel) hR, hts _ w_M_halve_im, hts _ w_M_halve_se⟩
theorem w_M_multiply_co : Cond.code y_M_multiply b_M_multiply 12 none ∈ zt := tb_at 449 (by decide +kernel)
theorem w_M_multiply_im : Cond.instanceMethod y_M_multiply ∈ zt := tb_at 448 (by decide +kernel)
theorem w_M_multiply_se : Cond.selects R_M y_M_multiply y_M_multiply ∈ zt := tb_se 19 (by decide +kernel)
theorem w_M_multiply_cw {R : Room} {s : State} {args : Array Value} {own : String} {index : Nat} {rm : Room} (hts : ∀ w ∈ zt, w.before args s = true) (hl : Cond.methodLink own index y_M_multiply ∈ zt) (hrc : rm.cells = 0) (hrs : rm.slots = 0) (hR : rm.frames + 1 ≤ R.frames ∧ 8 + (12 + 11) + rm.locals ≤ R.locals) : CallW R s args own R_M index y_M_multiply b_M_multiply 12 none (Cond.code y_M_multiply b_M_multiply 12 none :: zt) rm 0 0 3 := ⟨callB_of 3 hts (zgood w_M_multiply_co) rfl hrc hrs (hts _ q_in_M) (hts _ hl) (by decide +kernel) hR, hts _ w_M_multiply_im, hts _ w_M_multiply_se⟩
theorem w_M_length_co : Cond.code y_M_length b_M_length 3 (some .int) ∈ zt := tb_at 453 (by decide +kernel)
theorem w_M_length_im : Cond.instanceMethod y_M_length ∈ zt := tb_at 452 (by decide +kernel)
theorem w_M_length_se : Cond.selects R_M y_M_length y_M_length ∈ zt := tb_se 20 (by decide +kernel)
theorem w_M_length_cw {R : Room} {s : State} {args : Array Value} {own : String} {index : Nat} {rm : Room} (hts : ∀ w ∈ zt, w.before args s = true) (hl : Cond.methodLink own index y_M_length ∈ zt) (hrc : rm.cells = 0) (hrs : rm.slots = 0) (hR : rm.frames + 1 ≤ R.frames ∧ 8 + (3 + 11) + rm.locals ≤ R.locals) : CallW R s args own R_M index y_M_length b_M_length 3 (some .int) (Cond.code y_M_length b_M_length 3 (some .int) :: zt) rm 0 0 1 := ⟨callB_of 1 hts (zgood w_M_length_co) rfl hrc hrs (hts _ q_in_M) (hts _ hl) (by decide +kernel) hR, hts _ w_M_length_im, hts _ w_M_length_se⟩
theorem w_M_isBelow_co : Cond.code y_M_isBelow b_M_isBelow 2 (some .boolean) ∈ zt := tb_at 515 (by decide +kernel)
theorem w_M_isBelow_im : Cond.instanceMethod y_M_isBelow ∈ zt := tb_at 514 (by decide +kernel)
theorem w_M_isBelow_se : Cond.selects R_M y_M_isBelow y_M_isBelow ∈ zt := tb_se 25 (by decide +kernel)
theorem w_M_isBelow_cw {R : Room} {s : State} {args : Array Value} {own : String} {index : Nat} {rm : Room} (hts : ∀ w ∈ zt, w.before args s = true) (hl : Cond.methodLink own index y_M_isBelow ∈ zt) (hrc : rm.cells = 0) (hrs : rm.slots = 0) (hR : rm.frames + 1 ≤ R.frames ∧ 8 + (2 + 11) + rm.locals ≤ R.locals) : CallW R s args own R_M index y_M_isBelow b_M_isBelow 2 (some .boolean) (Cond.code y_M_isBelow b_M_isBelow 2 (some .boolean) :: zt) rm 0 0 1 := ⟨callB_of 1 hts (zgood w_M_isBelow_co) rfl hrc hrs (hts _ q_in_M) (hts _ hl) (by decide +kernel) hR, hts _ w_M_isBelow_im, hts _ w_M_isBelow_se⟩
theorem w_M_begin_co : Cond.code y_M_begin b_M_begin 5 none ∈ zt := tb_at 415 (by decide +kernel)
theorem w_M_begin_im : Cond.instanceMethod y_M_begin ∈ zt := tb_at 414 (by decide +kernel)
theorem w_M_begin_se : Cond.selects R_M y_M_begin y_M_begin ∈ zt := tb_se 12 (by decide +kernel)
theorem w_M_begin_cw {R : Room} {s : State} {args : Array Value} {own : String} {index : Nat} {rm : Room} (hts : ∀ w ∈ zt, w.before args s = true) (hl : Cond.methodLink own index y_M_begin ∈ zt) (hrc : rm.cells = 0) (hrs : rm.slots = 0) (hR : rm.frames + 1 ≤ R.frames ∧ 8 + (5 + 11) + rm.locals ≤ R.locals) : CallW R s args own R_M index y_M_begin b_M_begin 5 none (Cond.code y_M_begin b_M_begin 5 none :: zt) rm 0 0 1 := ⟨callB_of 1 hts (zgood w_M_begin_co) rfl hrc hrs (hts _ q_in_M) (hts _ hl) (by decide +kernel) hR, hts _ w_M_begin_im, hts _ w_M_begin_se⟩
theorem w_M_find_co : Cond.code y_M_find b_M_find 13 none ∈ zt := tb_at 430 (by decide +kernel)
theorem w_M_find_im : Cond.instanceMethod y_M_find ∈ zt := tb_at 429 (by decide +kernel)
theorem w_M_find_se : Cond.selects R_M y_M_find y_M_find ∈ zt := tb_se 15 (by decide +kernel)
theorem w_M_find_cw {R : Room} {s : State} {args : Array Value} {own : String} {index : Nat} {rm : Room} (hts : ∀ w ∈ zt, w.before args s = true) (hl : Cond.methodLink own index y_M_find ∈ zt) (hrc : rm.cells = 0) (hrs : rm.slots = 0) (hR : rm.frames + 1 ≤ R.frames ∧ 8 + (13 + 11) + rm.locals ≤ R.locals) : CallW R s args own R_M index y_M_find b_M_find 13 none (Cond.code y_M_find b_M_find 13 none :: zt) rm 0 0 0 := ⟨callB_of 0 hts (zgood w_M_find_co) rfl hrc hrs (hts _ q_in_M) (hts _ hl) (by decide +kernel) hR, hts _ w_M_find_im, hts _ w_M_find_se⟩
theorem w_M_turn_co : Cond.code y_M_turn b_M_turn 7 none ∈ zt := tb_at 458 (by decide +kernel)
theorem w_M_turn_im : Cond.instanceMethod y_M_turn ∈ zt := tb_at 457 (by decide +kernel)
theorem w_M_turn_se : Cond.selects R_M y_M_turn y_M_turn ∈ zt := tb_se 21 (by decide +kernel)
theorem w_M_turn_cw {R : Room} {s : State} {args : Array Value} {own : String} {index : Nat} {rm : Room} (hts : ∀ w ∈ zt, w.before args s = true) (hl : Cond.methodLink own index y_M_turn ∈ zt) (hrc : rm.cells = 0) (hrs : rm.slots = 0) (hR : rm.frames + 1 ≤ R.frames ∧ 8 + (7 + 11) + rm.locals ≤ R.locals) : CallW R s args own R_M index y_M_turn b_M_turn 7 none (Cond.code y_M_turn b_M_turn 7 none :: zt) rm 0 0 3 := ⟨callB_of 3 hts (zgood w_M_turn_co) rfl hrc hrs (hts _ q_in_M) (hts _ hl) (by decide +kernel) hR, hts _ w_M_turn_im, hts _ w_M_turn_se⟩
theorem w_M_take_co : Cond.code y_M_take b_M_take 5 (some .int) ∈ zt := tb_at 498 (by decide +kernel)
theorem w_M_take_im : Cond.instanceMethod y_M_take ∈ zt := tb_at 496 (by decide +kernel)
theorem w_M_take_se : Cond.selects R_M y_M_take y_M_take ∈ zt := tb_at 497 (by decide +kernel)
theorem w_M_take_cw {R : Room} {s : State} {args : Array Value} {own : String} {index : Nat} {rm : Room} (hts : ∀ w ∈ zt, w.before args s = true) (hl : Cond.methodLink own index y_M_take ∈ zt) (hrc : rm.cells = 0) (hrs : rm.slots = 0) (hR : rm.frames + 1 ≤ R.frames ∧ 8 + (5 + 11) + rm.locals ≤ R.locals) : CallW R s args own R_M index y_M_take b_M_take 5 (some .int) (Cond.code y_M_take b_M_take 5 (some .int) :: zt) rm 0 0 1 := ⟨callB_of 1 hts (zgood w_M_take_co) rfl hrc hrs (hts _ q_in_M) (hts _ hl) (by decide +kernel) hR, hts _ w_M_take_im, hts _ w_M_take_se⟩
theorem w_M_count_co : Cond.code y_M_count b_M_count 2 (some .int) ∈ zt := tb_at 520 (by decide +kernel)
theorem w_M_count_im : Cond.instanceMethod y_M_count ∈ zt := tb_at 518 (by decide +kernel)
theorem w_M_count_se : Cond.selects R_M y_M_count y_M_count ∈ zt := tb_at 519 (by decide +kernel)
theorem w_M_count_cw {R : Room} {s : State} {args : Array Value} {own : String} {index : Nat} {rm : Room} (hts : ∀ w ∈ zt, w.before args s = true) (hl : Cond.methodLink own index y_M_count ∈ zt) (hrc : rm.cells = 0) (hrs : rm.slots = 0) (hR : rm.frames + 1 ≤ R.frames ∧ 8 + (2 + 11) + rm.locals ≤ R.locals) : CallW R s args own R_M index y_M_count b_M_count 2 (some .int) (Cond.code y_M_count b_M_count 2 (some .int) :: zt) rm 0 0 1 := ⟨callB_of 1 hts (zgood w_M_count_co) rfl hrc hrs (hts _ q_in_M) (hts _ hl) (by decide +kernel) hR, hts _ w_M_count_im, hts _ w_M_count_se⟩
theorem w_M_common_co : Cond.code y_M_common b_M_common 10 (some .long) ∈ zt := tb_at 529 (by decide +kernel)
theorem w_M_common_st : Cond.static y_M_common ∈ zt := tb_at 528 (by decide +kernel)
theorem w_M_common_cw {R : Room} {s : State} {args : Array Value} {own : String} {index : Nat} {rm : Room} (hts : ∀ w ∈ zt, w.before args s = true) (hl : Cond.methodLink own index y_M_common ∈ zt) (hrc : rm.cells = 0) (hrs : rm.slots = 0) (hR : rm.frames + 1 ≤ R.frames ∧ 8 + (10 + 11) + rm.locals ≤ R.locals) : CallB R s args own index y_M_common b_M_common 10 (some .long) (Cond.code y_M_common b_M_common 10 (some .long) :: zt) rm 0 0 2 ∧ (Cond.static y_M_common).before args s = true := ⟨callB_of 2 hts (zgood w_M_common_co) rfl hrc hrs (hts _ q_in_M) (hts _ hl) (by decide +kernel) hR, hts _ w_M_common_st⟩
theorem w_M_ask_co : Cond.code y_M_ask b_M_ask 5 none ∈ zt := tb_at 524 (by decide +kernel)
theorem w_M_ask_im : Cond.instanceMethod y_M_ask ∈ zt := tb_at 522 (by decide +kernel)
theorem w_M_ask_se : Cond.selects R_M y_M_ask y_M_ask ∈ zt := tb_at 523 (by decide +kernel)
theorem w_M_ask_cw {R : Room} {s : State} {args : Array Value} {own : String} {index : Nat} {rm : Room} (hts : ∀ w ∈ zt, w.before args s = true) (hl : Cond.methodLink own index y_M_ask ∈ zt) (hrc : rm.cells = 0) (hrs : rm.slots = 0) (hR : rm.frames + 1 ≤ R.frames ∧ 8 + (5 + 11) + rm.locals ≤ R.locals) : CallW R s args own R_M index y_M_ask b_M_ask 5 none (Cond.code y_M_ask b_M_ask 5 none :: zt) rm 0 0 3 := ⟨callB_of 3 hts (zgood w_M_ask_co) rfl hrc hrs (hts _ q_in_M) (hts _ hl) (by decide +kernel) hR, hts _ w_M_ask_im, hts _ w_M_ask_se⟩
theorem w_M_times_co : Cond.code y_M_times b_M_times 19 none ∈ zt := tb_at 542 (by decide +kernel)
theorem w_M_times_im : Cond.instanceMethod y_M_times ∈ zt := tb_at 541 (by decide +kernel)
theorem w_M_times_se : Cond.selects R_M y_M_times y_M_times ∈ zt := tb_se 27 (by decide +kernel)
theorem w_M_times_cw {R : Room} {s : State} {args : Array Value} {own : String} {index : Nat} {rm : Room} (hts : ∀ w ∈ zt, w.before args s = true) (hl : Cond.methodLink own index y_M_times ∈ zt) (hrc : rm.cells = 0) (hrs : rm.slots = 0) (hR : rm.frames + 1 ≤ R.frames ∧ 8 + (19 + 11) + rm.locals ≤ R.locals) : CallW R s args own R_M index y_M_times b_M_times 19 none (Cond.code y_M_times b_M_times 19 none :: zt) rm 0 0 5 := ⟨callB_of 5 hts (zgood w_M_times_co) rfl hrc hrs (hts _ q_in_M) (hts _ hl) (by decide +kernel) hR, hts _ w_M_times_im, hts _ w_M_times_se⟩
theorem w_M_power_co : Cond.code y_M_power b_M_power 12 (some .int) ∈ zt := tb_at 533 (by decide +kernel)
theorem w_M_power_im : Cond.instanceMethod y_M_power ∈ zt := tb_at 531 (by decide +kernel)
theorem w_M_power_se : Cond.selects R_M y_M_power y_M_power ∈ zt := tb_at 532 (by decide +kernel)
theorem w_M_power_cw {R : Room} {s : State} {args : Array Value} {own : String} {index : Nat} {rm : Room} (hts : ∀ w ∈ zt, w.before args s = true) (hl : Cond.methodLink own index y_M_power ∈ zt) (hrc : rm.cells = 0) (hrs : rm.slots = 0) (hR : rm.frames + 1 ≤ R.frames ∧ 8 + (12 + 11) + rm.locals ≤ R.locals) : CallW R s args own R_M index y_M_power b_M_power 12 (some .int) (Cond.code y_M_power b_M_power 12 (some .int) :: zt) rm 0 0 3 := ⟨callB_of 3 hts (zgood w_M_power_co) rfl hrc hrs (hts _ q_in_M) (hts _ hl) (by decide +kernel) hR, hts _ w_M_power_im, hts _ w_M_power_se⟩
theorem w_M_sized_co : Cond.code y_M_sized b_M_sized 2 (some .int) ∈ zt := tb_at 511 (by decide +kernel)
theorem w_M_sized_im : Cond.instanceMethod y_M_sized ∈ zt := tb_at 510 (by decide +kernel)
theorem w_M_sized_se : Cond.selects R_M y_M_sized y_M_sized ∈ zt := tb_se 24 (by decide +kernel)
theorem w_M_sized_cw {R : Room} {s : State} {args : Array Value} {own : String} {index : Nat} {rm : Room} (hts : ∀ w ∈ zt, w.before args s = true) (hl : Cond.methodLink own index y_M_sized ∈ zt) (hrc : rm.cells = 0) (hrs : rm.slots = 0) (hR : rm.frames + 1 ≤ R.frames ∧ 8 + (2 + 11) + rm.locals ≤ R.locals) : CallW R s args own R_M index y_M_sized b_M_sized 2 (some .int) (Cond.code y_M_sized b_M_sized 2 (some .int) :: zt) rm 0 0 1 := ⟨callB_of 1 hts (zgood w_M_sized_co) rfl hrc hrs (hts _ q_in_M) (hts _ hl) (by decide +kernel) hR, hts _ w_M_sized_im, hts _ w_M_sized_se⟩
theorem w_M_bitsOf_co : Cond.code y_M_bitsOf b_M_bitsOf 5 (some .int) ∈ zt := tb_at 507 (by decide +kernel)
theorem w_M_bitsOf_im : Cond.instanceMethod y_M_bitsOf ∈ zt := tb_at 506 (by decide +kernel)
theorem w_M_bitsOf_se : Cond.selects R_M y_M_bitsOf y_M_bitsOf ∈ zt := tb_se 23 (by decide +kernel)
theorem w_M_bitsOf_cw {R : Room} {s : State} {args : Array Value} {own : String} {index : Nat} {rm : Room} (hts : ∀ w ∈ zt, w.before args s = true) (hl : Cond.methodLink own index y_M_bitsOf ∈ zt) (hrc : rm.cells = 0) (hrs : rm.slots = 0) (hR : rm.frames + 1 ≤ R.frames ∧ 8 + (5 + 11) + rm.locals ≤ R.locals) : CallW R s args own R_M index y_M_bitsOf b_M_bitsOf 5 (some .int) (Cond.code y_M_bitsOf b_M_bitsOf 5 (some .int) :: zt) rm 0 0 1 := ⟨callB_of 1 hts (zgood w_M_bitsOf_co) rfl hrc hrs (hts _ q_in_M) (hts _ hl) (by decide +kernel) hR, hts _ w_M_bitsOf_im, hts _ w_M_bitsOf_se⟩
theorem w_M_left_co : Cond.code y_M_left b_M_left 7 (some .long) ∈ zt := tb_at 537 (by decide +kernel)
theorem w_M_left_im : Cond.instanceMethod y_M_left ∈ zt := tb_at 536 (by decide +kernel)
theorem w_M_left_se : Cond.selects R_M y_M_left y_M_left ∈ zt := tb_se 26 (by decide +kernel)
theorem w_M_left_cw {R : Room} {s : State} {args : Array Value} {own : String} {index : Nat} {rm : Room} (hts : ∀ w ∈ zt, w.before args s = true) (hl : Cond.methodLink own index y_M_left ∈ zt) (hrc : rm.cells = 0) (hrs : rm.slots = 0) (hR : rm.frames + 1 ≤ R.frames ∧ 8 + (7 + 11) + rm.locals ≤ R.locals) : CallW R s args own R_M index y_M_left b_M_left 7 (some .long) (Cond.code y_M_left b_M_left 7 (some .long) :: zt) rm 0 0 2 := ⟨callB_of 2 hts (zgood w_M_left_co) rfl hrc hrs (hts _ q_in_M) (hts _ hl) (by decide +kernel) hR, hts _ w_M_left_im, hts _ w_M_left_se⟩
theorem w_M_sign_co : Cond.code y_M_sign b_M_sign 2 (some .int) ∈ zt := tb_at 546 (by decide +kernel)
theorem w_M_sign_im : Cond.instanceMethod y_M_sign ∈ zt := tb_at 544 (by decide +kernel)
theorem w_M_sign_se : Cond.selects R_M y_M_sign y_M_sign ∈ zt := tb_at 545 (by decide +kernel)
theorem w_M_sign_cw {R : Room} {s : State} {args : Array Value} {own : String} {index : Nat} {rm : Room} (hts : ∀ w ∈ zt, w.before args s = true) (hl : Cond.methodLink own index y_M_sign ∈ zt) (hrc : rm.cells = 0) (hrs : rm.slots = 0) (hR : rm.frames + 1 ≤ R.frames ∧ 8 + (2 + 11) + rm.locals ≤ R.locals) : CallW R s args own R_M index y_M_sign b_M_sign 2 (some .int) (Cond.code y_M_sign b_M_sign 2 (some .int) :: zt) rm 0 0 1 := ⟨callB_of 1 hts (zgood w_M_sign_co) rfl hrc hrs (hts _ q_in_M) (hts _ hl) (by decide +kernel) hR, hts _ w_M_sign_im, hts _ w_M_sign_se⟩
theorem w_M_bits_co : Cond.code y_M_bits b_M_bits 2 (some .int) ∈ zt := tb_at 551 (by decide +kernel)
theorem w_M_bits_im : Cond.instanceMethod y_M_bits ∈ zt := tb_at 549 (by decide +kernel)
theorem w_M_bits_se : Cond.selects R_M y_M_bits y_M_bits ∈ zt := tb_at 550 (by decide +kernel)
theorem w_M_bits_cw {R : Room} {s : State} {args : Array Value} {own : String} {index : Nat} {rm : Room} (hts : ∀ w ∈ zt, w.before args s = true) (hl : Cond.methodLink own index y_M_bits ∈ zt) (hrc : rm.cells = 0) (hrs : rm.slots = 0) (hR : rm.frames + 1 ≤ R.frames ∧ 8 + (2 + 11) + rm.locals ≤ R.locals) : CallW R s args own R_M index y_M_bits b_M_bits 2 (some .int) (Cond.code y_M_bits b_M_bits 2 (some .int) :: zt) rm 0 0 1 := ⟨callB_of 1 hts (zgood w_M_bits_co) rfl hrc hrs (hts _ q_in_M) (hts _ hl) (by decide +kernel) hR, hts _ w_M_bits_im, hts _ w_M_bits_se⟩
theorem w_M_word_co : Cond.code y_M_word b_M_word 4 (some .int) ∈ zt := tb_at 555 (by decide +kernel)
theorem w_M_word_im : Cond.instanceMethod y_M_word ∈ zt := tb_at 553 (by decide +kernel)
theorem w_M_word_se : Cond.selects R_M y_M_word y_M_word ∈ zt := tb_at 554 (by decide +kernel)
theorem w_M_word_cw {R : Room} {s : State} {args : Array Value} {own : String} {index : Nat} {rm : Room} (hts : ∀ w ∈ zt, w.before args s = true) (hl : Cond.methodLink own index y_M_word ∈ zt) (hrc : rm.cells = 0) (hrs : rm.slots = 0) (hR : rm.frames + 1 ≤ R.frames ∧ 8 + (4 + 11) + rm.locals ≤ R.locals) : CallW R s args own R_M index y_M_word b_M_word 4 (some .int) (Cond.code y_M_word b_M_word 4 (some .int) :: zt) rm 0 0 2 := ⟨callB_of 2 hts (zgood w_M_word_co) rfl hrc hrs (hts _ q_in_M) (hts _ hl) (by decide +kernel) hR, hts _ w_M_word_im, hts _ w_M_word_se⟩
theorem w_M_residue_co : Cond.code y_M_residue b_M_residue 3 (some .int) ∈ zt := tb_at 560 (by decide +kernel)
theorem w_M_residue_im : Cond.instanceMethod y_M_residue ∈ zt := tb_at 558 (by decide +kernel)
theorem w_M_residue_se : Cond.selects R_M y_M_residue y_M_residue ∈ zt := tb_at 559 (by decide +kernel)
theorem w_M_residue_cw {R : Room} {s : State} {args : Array Value} {own : String} {index : Nat} {rm : Room} (hts : ∀ w ∈ zt, w.before args s = true) (hl : Cond.methodLink own index y_M_residue ∈ zt) (hrc : rm.cells = 0) (hrs : rm.slots = 0) (hR : rm.frames + 1 ≤ R.frames ∧ 8 + (3 + 11) + rm.locals ≤ R.locals) : CallW R s args own R_M index y_M_residue b_M_residue 3 (some .int) (Cond.code y_M_residue b_M_residue 3 (some .int) :: zt) rm 0 0 2 := ⟨callB_of 2 hts (zgood w_M_residue_co) rfl hrc hrs (hts _ q_in_M) (hts _ hl) (by decide +kernel) hR, hts _ w_M_residue_im, hts _ w_M_residue_se⟩
theorem w_B_init_co : Cond.code y_B_init b_B_init 1 none ∈ zt := tb_at 25 (by decide +kernel)
theorem w_B_init_im : Cond.instanceMethod y_B_init ∈ zt := tb_at 24 (by decide +kernel)
theorem w_B_set_co : Cond.code y_B_set b_B_set 2 none ∈ zt := tb_at 91 (by decide +kernel)
theorem w_B_set_im : Cond.instanceMethod y_B_set ∈ zt := tb_at 89 (by decide +kernel)
theorem w_B_set_se : Cond.selects R_B y_B_set y_B_set ∈ zt := tb_at 90 (by decide +kernel)
theorem w_B_set_cw {R : Room} {s : State} {args : Array Value} {own : String} {index : Nat} {rm : Room} (hts : ∀ w ∈ zt, w.before args s = true) (hl : Cond.methodLink own index y_B_set ∈ zt) (hrc : rm.cells = 0) (hrs : rm.slots = 0) (hR : rm.frames + 1 ≤ R.frames ∧ 8 + (2 + 11) + rm.locals ≤ R.locals) : CallW R s args own R_B index y_B_set b_B_set 2 none (Cond.code y_B_set b_B_set 2 none :: zt) rm 0 0 1 := ⟨callB_of 1 hts (zgood w_B_set_co) rfl hrc hrs (hts _ q_in_B) (hts _ hl) (by decide +kernel) hR, hts _ w_B_set_im, hts _ w_B_set_se⟩
theorem w_B_copy_co : Cond.code y_B_copy b_B_copy 2 none ∈ zt := tb_at 127 (by decide +kernel)
theorem w_B_copy_im : Cond.instanceMethod y_B_copy ∈ zt := tb_at 125 (by decide +kernel)
theorem w_B_copy_se : Cond.selects R_B y_B_copy y_B_copy ∈ zt := tb_at 126 (by decide +kernel)
theorem w_B_copy_cw {R : Room} {s : State} {args : Array Value} {own : String} {index : Nat} {rm : Room} (hts : ∀ w ∈ zt, w.before args s = true) (hl : Cond.methodLink own index y_B_copy ∈ zt) (hrc : rm.cells = 0) (hrs : rm.slots = 0) (hR : rm.frames + 1 ≤ R.frames ∧ 8 + (2 + 11) + rm.locals ≤ R.locals) : CallW R s args own R_B index y_B_copy b_B_copy 2 none (Cond.code y_B_copy b_B_copy 2 none :: zt) rm 0 0 1 := ⟨callB_of 1 hts (zgood w_B_copy_co) rfl hrc hrs (hts _ q_in_B) (hts _ hl) (by decide +kernel) hR, hts _ w_B_copy_im, hts _ w_B_copy_se⟩
theorem w_B_signum_co : Cond.code y_B_signum b_B_signum 1 (some .int) ∈ zt := tb_at 225 (by decide +kernel)
theorem w_B_signum_im : Cond.instanceMethod y_B_signum ∈ zt := tb_at 223 (by decide +kernel)
theorem w_B_signum_se : Cond.selects R_B y_B_signum y_B_signum ∈ zt := tb_at 224 (by decide +kernel)
theorem w_B_signum_cw {R : Room} {s : State} {args : Array Value} {own : String} {index : Nat} {rm : Room} (hts : ∀ w ∈ zt, w.before args s = true) (hl : Cond.methodLink own index y_B_signum ∈ zt) (hrc : rm.cells = 0) (hrs : rm.slots = 0) (hR : rm.frames + 1 ≤ R.frames ∧ 8 + (1 + 11) + rm.locals ≤ R.locals) : CallW R s args own R_B index y_B_signum b_B_signum 1 (some .int) (Cond.code y_B_signum b_B_signum 1 (some .int) :: zt) rm 0 0 0 := ⟨callB_of 0 hts (zgood w_B_signum_co) rfl hrc hrs (hts _ q_in_B) (hts _ hl) (by decide +kernel) hR, hts _ w_B_signum_im, hts _ w_B_signum_se⟩
theorem w_B_countBits_co : Cond.code y_B_countBits b_B_countBits 1 (some .int) ∈ zt := tb_at 313 (by decide +kernel)
theorem w_B_countBits_im : Cond.instanceMethod y_B_countBits ∈ zt := tb_at 311 (by decide +kernel)
theorem w_B_countBits_se : Cond.selects R_B y_B_countBits y_B_countBits ∈ zt := tb_at 312 (by decide +kernel)
theorem w_B_countBits_cw {R : Room} {s : State} {args : Array Value} {own : String} {index : Nat} {rm : Room} (hts : ∀ w ∈ zt, w.before args s = true) (hl : Cond.methodLink own index y_B_countBits ∈ zt) (hrc : rm.cells = 0) (hrs : rm.slots = 0) (hR : rm.frames + 1 ≤ R.frames ∧ 8 + (1 + 11) + rm.locals ≤ R.locals) : CallW R s args own R_B index y_B_countBits b_B_countBits 1 (some .int) (Cond.code y_B_countBits b_B_countBits 1 (some .int) :: zt) rm 0 0 0 := ⟨callB_of 0 hts (zgood w_B_countBits_co) rfl hrc hrs (hts _ q_in_B) (hts _ hl) (by decide +kernel) hR, hts _ w_B_countBits_im, hts _ w_B_countBits_se⟩
theorem w_B_wordAt_co : Cond.code y_B_wordAt b_B_wordAt 2 (some .int) ∈ zt := tb_at 116 (by decide +kernel)
theorem w_B_wordAt_im : Cond.instanceMethod y_B_wordAt ∈ zt := tb_at 114 (by decide +kernel)
theorem w_B_wordAt_se : Cond.selects R_B y_B_wordAt y_B_wordAt ∈ zt := tb_at 115 (by decide +kernel)
theorem w_B_wordAt_cw {R : Room} {s : State} {args : Array Value} {own : String} {index : Nat} {rm : Room} (hts : ∀ w ∈ zt, w.before args s = true) (hl : Cond.methodLink own index y_B_wordAt ∈ zt) (hrc : rm.cells = 0) (hrs : rm.slots = 0) (hR : rm.frames + 1 ≤ R.frames ∧ 8 + (2 + 11) + rm.locals ≤ R.locals) : CallW R s args own R_B index y_B_wordAt b_B_wordAt 2 (some .int) (Cond.code y_B_wordAt b_B_wordAt 2 (some .int) :: zt) rm 0 0 1 := ⟨callB_of 1 hts (zgood w_B_wordAt_co) rfl hrc hrs (hts _ q_in_B) (hts _ hl) (by decide +kernel) hR, hts _ w_B_wordAt_im, hts _ w_B_wordAt_se⟩
theorem w_B_modulo_co : Cond.code y_B_modulo b_B_modulo 5 (some .long) ∈ zt := tb_at 348 (by decide +kernel)
theorem w_B_modulo_im : Cond.instanceMethod y_B_modulo ∈ zt := tb_at 346 (by decide +kernel)
theorem w_B_modulo_se : Cond.selects R_B y_B_modulo y_B_modulo ∈ zt := tb_at 347 (by decide +kernel)
theorem w_B_modulo_cw {R : Room} {s : State} {args : Array Value} {own : String} {index : Nat} {rm : Room} (hts : ∀ w ∈ zt, w.before args s = true) (hl : Cond.methodLink own index y_B_modulo ∈ zt) (hrc : rm.cells = 0) (hrs : rm.slots = 0) (hR : rm.frames + 1 ≤ R.frames ∧ 8 + (5 + 11) + rm.locals ≤ R.locals) : CallW R s args own R_B index y_B_modulo b_B_modulo 5 (some .long) (Cond.code y_B_modulo b_B_modulo 5 (some .long) :: zt) rm 0 0 1 := ⟨callB_of 1 hts (zgood w_B_modulo_co) rfl hrc hrs (hts _ q_in_B) (hts _ hl) (by decide +kernel) hR, hts _ w_B_modulo_im, hts _ w_B_modulo_se⟩
theorem w_B_close_co : Cond.code y_B_close b_B_close 4 none ∈ zt := tb_at 95 (by decide +kernel)
theorem w_B_close_im : Cond.instanceMethod y_B_close ∈ zt := tb_at 93 (by decide +kernel)
theorem w_B_close_se : Cond.selects R_B y_B_close y_B_close ∈ zt := tb_at 94 (by decide +kernel)
theorem w_B_close_cw {R : Room} {s : State} {args : Array Value} {own : String} {index : Nat} {rm : Room} (hts : ∀ w ∈ zt, w.before args s = true) (hl : Cond.methodLink own index y_B_close ∈ zt) (hrc : rm.cells = 0) (hrs : rm.slots = 0) (hR : rm.frames + 1 ≤ R.frames ∧ 8 + (4 + 11) + rm.locals ≤ R.locals) : CallW R s args own R_B index y_B_close b_B_close 4 none (Cond.code y_B_close b_B_close 4 none :: zt) rm 0 0 2 := ⟨callB_of 2 hts (zgood w_B_close_co) rfl hrc hrs (hts _ q_in_B) (hts _ hl) (by decide +kernel) hR, hts _ w_B_close_im, hts _ w_B_close_se⟩
theorem w_B_setTimes_co : Cond.code y_B_setTimes b_B_setTimes 8 none ∈ zt := tb_at 159 (by decide +kernel)
theorem w_B_setTimes_im : Cond.instanceMethod y_B_setTimes ∈ zt := tb_at 157 (by decide +kernel)
theorem w_B_setTimes_se : Cond.selects R_B y_B_setTimes y_B_setTimes ∈ zt := tb_at 158 (by decide +kernel)
theorem w_B_setTimes_cw {R : Room} {s : State} {args : Array Value} {own : String} {index : Nat} {rm : Room} (hts : ∀ w ∈ zt, w.before args s = true) (hl : Cond.methodLink own index y_B_setTimes ∈ zt) (hrc : rm.cells = 0) (hrs : rm.slots = 0) (hR : rm.frames + 1 ≤ R.frames ∧ 8 + (8 + 11) + rm.locals ≤ R.locals) : CallW R s args own R_B index y_B_setTimes b_B_setTimes 8 none (Cond.code y_B_setTimes b_B_setTimes 8 none :: zt) rm 0 0 2 := ⟨callB_of 2 hts (zgood w_B_setTimes_co) rfl hrc hrs (hts _ q_in_B) (hts _ hl) (by decide +kernel) hR, hts _ w_B_setTimes_im, hts _ w_B_setTimes_se⟩
theorem w_B_setProduct_co : Cond.code y_B_setProduct b_B_setProduct 5 none ∈ zt := tb_at 134 (by decide +kernel)
theorem w_B_setProduct_im : Cond.instanceMethod y_B_setProduct ∈ zt := tb_at 132 (by decide +kernel)
theorem w_B_setProduct_se : Cond.selects R_B y_B_setProduct y_B_setProduct ∈ zt := tb_at 133 (by decide +kernel)
theorem w_B_setProduct_cw {R : Room} {s : State} {args : Array Value} {own : String} {index : Nat} {rm : Room} (hts : ∀ w ∈ zt, w.before args s = true) (hl : Cond.methodLink own index y_B_setProduct ∈ zt) (hrc : rm.cells = 0) (hrs : rm.slots = 0) (hR : rm.frames + 1 ≤ R.frames ∧ 8 + (5 + 11) + rm.locals ≤ R.locals) : CallW R s args own R_B index y_B_setProduct b_B_setProduct 5 none (Cond.code y_B_setProduct b_B_setProduct 5 none :: zt) rm 0 0 2 := ⟨callB_of 2 hts (zgood w_B_setProduct_co) rfl hrc hrs (hts _ q_in_B) (hts _ hl) (by decide +kernel) hR, hts _ w_B_setProduct_im, hts _ w_B_setProduct_se⟩
theorem w_B_addRow_co : Cond.code y_B_addRow b_B_addRow 9 none ∈ zt := tb_at 142 (by decide +kernel)
theorem w_B_addRow_im : Cond.instanceMethod y_B_addRow ∈ zt := tb_at 141 (by decide +kernel)
theorem w_B_addRow_se : Cond.selects R_B y_B_addRow y_B_addRow ∈ zt := tb_se 5 (by decide +kernel)
theorem w_B_addRow_cw {R : Room} {s : State} {args : Array Value} {own : String} {index : Nat} {rm : Room} (hts : ∀ w ∈ zt, w.before args s = true) (hl : Cond.methodLink own index y_B_addRow ∈ zt) (hrc : rm.cells = 0) (hrs : rm.slots = 0) (hR : rm.frames + 1 ≤ R.frames ∧ 8 + (9 + 11) + rm.locals ≤ R.locals) : CallW R s args own R_B index y_B_addRow b_B_addRow 9 none (Cond.code y_B_addRow b_B_addRow 9 none :: zt) rm 0 0 3 := ⟨callB_of 3 hts (zgood w_B_addRow_co) rfl hrc hrs (hts _ q_in_B) (hts _ hl) (by decide +kernel) hR, hts _ w_B_addRow_im, hts _ w_B_addRow_se⟩
theorem w_B_addSmall_co : Cond.code y_B_addSmall b_B_addSmall 5 none ∈ zt := tb_at 146 (by decide +kernel)
theorem w_B_addSmall_im : Cond.instanceMethod y_B_addSmall ∈ zt := tb_at 144 (by decide +kernel)
theorem w_B_addSmall_se : Cond.selects R_B y_B_addSmall y_B_addSmall ∈ zt := tb_at 145 (by decide +kernel)
theorem w_B_addSmall_cw {R : Room} {s : State} {args : Array Value} {own : String} {index : Nat} {rm : Room} (hts : ∀ w ∈ zt, w.before args s = true) (hl : Cond.methodLink own index y_B_addSmall ∈ zt) (hrc : rm.cells = 0) (hrs : rm.slots = 0) (hR : rm.frames + 1 ≤ R.frames ∧ 8 + (5 + 11) + rm.locals ≤ R.locals) : CallW R s args own R_B index y_B_addSmall b_B_addSmall 5 none (Cond.code y_B_addSmall b_B_addSmall 5 none :: zt) rm 0 0 1 := ⟨callB_of 1 hts (zgood w_B_addSmall_co) rfl hrc hrs (hts _ q_in_B) (hts _ hl) (by decide +kernel) hR, hts _ w_B_addSmall_im, hts _ w_B_addSmall_se⟩
theorem w_B_setSum_co : Cond.code y_B_setSum b_B_setSum 7 none ∈ zt := tb_at 178 (by decide +kernel)
theorem w_B_setSum_im : Cond.instanceMethod y_B_setSum ∈ zt := tb_at 176 (by decide +kernel)
theorem w_B_setSum_se : Cond.selects R_B y_B_setSum y_B_setSum ∈ zt := tb_at 177 (by decide +kernel)
theorem w_B_setSum_cw {R : Room} {s : State} {args : Array Value} {own : String} {index : Nat} {rm : Room} (hts : ∀ w ∈ zt, w.before args s = true) (hl : Cond.methodLink own index y_B_setSum ∈ zt) (hrc : rm.cells = 0) (hrs : rm.slots = 0) (hR : rm.frames + 1 ≤ R.frames ∧ 8 + (7 + 11) + rm.locals ≤ R.locals) : CallW R s args own R_B index y_B_setSum b_B_setSum 7 none (Cond.code y_B_setSum b_B_setSum 7 none :: zt) rm 0 0 2 := ⟨callB_of 2 hts (zgood w_B_setSum_co) rfl hrc hrs (hts _ q_in_B) (hts _ hl) (by decide +kernel) hR, hts _ w_B_setSum_im, hts _ w_B_setSum_se⟩
theorem w_B_setDifference_co : Cond.code y_B_setDifference b_B_setDifference 9 none ∈ zt := tb_at 169 (by decide +kernel)
theorem w_B_setDifference_im : Cond.instanceMethod y_B_setDifference ∈ zt := tb_at 167 (by decide +kernel)
theorem w_B_setDifference_se : Cond.selects R_B y_B_setDifference y_B_setDifference ∈ zt := tb_at 168 (by decide +kernel)
theorem w_B_setDifference_cw {R : Room} {s : State} {args : Array Value} {own : String} {index : Nat} {rm : Room} (hts : ∀ w ∈ zt, w.before args s = true) (hl : Cond.methodLink own index y_B_setDifference ∈ zt) (hrc : rm.cells = 0) (hrs : rm.slots = 0) (hR : rm.frames + 1 ≤ R.frames ∧ 8 + (9 + 11) + rm.locals ≤ R.locals) : CallW R s args own R_B index y_B_setDifference b_B_setDifference 9 none (Cond.code y_B_setDifference b_B_setDifference 9 none :: zt) rm 0 0 2 := ⟨callB_of 2 hts (zgood w_B_setDifference_co) rfl hrc hrs (hts _ q_in_B) (hts _ hl) (by decide +kernel) hR, hts _ w_B_setDifference_im, hts _ w_B_setDifference_se⟩
theorem w_B_isLess_co : Cond.code y_B_isLess b_B_isLess 3 (some .boolean) ∈ zt := tb_at 173 (by decide +kernel)
theorem w_B_isLess_im : Cond.instanceMethod y_B_isLess ∈ zt := tb_at 172 (by decide +kernel)
theorem w_B_isLess_se : Cond.selects R_B y_B_isLess y_B_isLess ∈ zt := tb_se 8 (by decide +kernel)
theorem w_B_isLess_cw {R : Room} {s : State} {args : Array Value} {own : String} {index : Nat} {rm : Room} (hts : ∀ w ∈ zt, w.before args s = true) (hl : Cond.methodLink own index y_B_isLess ∈ zt) (hrc : rm.cells = 0) (hrs : rm.slots = 0) (hR : rm.frames + 1 ≤ R.frames ∧ 8 + (3 + 11) + rm.locals ≤ R.locals) : CallW R s args own R_B index y_B_isLess b_B_isLess 3 (some .boolean) (Cond.code y_B_isLess b_B_isLess 3 (some .boolean) :: zt) rm 0 0 1 := ⟨callB_of 1 hts (zgood w_B_isLess_co) rfl hrc hrs (hts _ q_in_B) (hts _ hl) (by decide +kernel) hR, hts _ w_B_isLess_im, hts _ w_B_isLess_se⟩
theorem w_B_halve_co : Cond.code y_B_halve b_B_halve 2 none ∈ zt := tb_at 183 (by decide +kernel)
theorem w_B_halve_im : Cond.instanceMethod y_B_halve ∈ zt := tb_at 181 (by decide +kernel)
theorem w_B_halve_se : Cond.selects R_B y_B_halve y_B_halve ∈ zt := tb_at 182 (by decide +kernel)
theorem w_B_halve_cw {R : Room} {s : State} {args : Array Value} {own : String} {index : Nat} {rm : Room} (hts : ∀ w ∈ zt, w.before args s = true) (hl : Cond.methodLink own index y_B_halve ∈ zt) (hrc : rm.cells = 0) (hrs : rm.slots = 0) (hR : rm.frames + 1 ≤ R.frames ∧ 8 + (2 + 11) + rm.locals ≤ R.locals) : CallW R s args own R_B index y_B_halve b_B_halve 2 none (Cond.code y_B_halve b_B_halve 2 none :: zt) rm 0 0 0 := ⟨callB_of 0 hts (zgood w_B_halve_co) rfl hrc hrs (hts _ q_in_B) (hts _ hl) (by decide +kernel) hR, hts _ w_B_halve_im, hts _ w_B_halve_se⟩
theorem w_K_init_co : Cond.code y_K_init b_K_init 1 none ∈ zt := tb_at 44 (by decide +kernel)
theorem w_K_init_im : Cond.instanceMethod y_K_init ∈ zt := tb_at 43 (by decide +kernel)
theorem w_K_start_co : Cond.code y_K_start b_K_start 1 none ∈ zt := tb_at 87 (by decide +kernel)
theorem w_K_start_im : Cond.instanceMethod y_K_start ∈ zt := tb_at 85 (by decide +kernel)
theorem w_K_start_se : Cond.selects R_K y_K_start y_K_start ∈ zt := tb_at 86 (by decide +kernel)
theorem w_K_start_cw {R : Room} {s : State} {args : Array Value} {own : String} {index : Nat} {rm : Room} (hts : ∀ w ∈ zt, w.before args s = true) (hl : Cond.methodLink own index y_K_start ∈ zt) (hrc : rm.cells = 0) (hrs : rm.slots = 0) (hR : rm.frames + 1 ≤ R.frames ∧ 8 + (1 + 11) + rm.locals ≤ R.locals) : CallW R s args own R_K index y_K_start b_K_start 1 none (Cond.code y_K_start b_K_start 1 none :: zt) rm 0 0 0 := ⟨callB_of 0 hts (zgood w_K_start_co) rfl hrc hrs (hts _ q_in_K) (hts _ hl) (by decide +kernel) hR, hts _ w_K_start_im, hts _ w_K_start_se⟩
theorem w_K_step_co : Cond.code y_K_step b_K_step 6 none ∈ zt := tb_at 104 (by decide +kernel)
theorem w_K_step_im : Cond.instanceMethod y_K_step ∈ zt := tb_at 102 (by decide +kernel)
theorem w_K_step_se : Cond.selects R_K y_K_step y_K_step ∈ zt := tb_at 103 (by decide +kernel)
theorem w_K_step_cw {R : Room} {s : State} {args : Array Value} {own : String} {index : Nat} {rm : Room} (hts : ∀ w ∈ zt, w.before args s = true) (hl : Cond.methodLink own index y_K_step ∈ zt) (hrc : rm.cells = 0) (hrs : rm.slots = 0) (hR : rm.frames + 1 ≤ R.frames ∧ 8 + (6 + 11) + rm.locals ≤ R.locals) : CallW R s args own R_K index y_K_step b_K_step 6 none (Cond.code y_K_step b_K_step 6 none :: zt) rm 0 0 1 := ⟨callB_of 1 hts (zgood w_K_step_co) rfl hrc hrs (hts _ q_in_K) (hts _ hl) (by decide +kernel) hR, hts _ w_K_step_im, hts _ w_K_step_se⟩
theorem w_K_finish_co : Cond.code y_K_finish b_K_finish 2 none ∈ zt := tb_at 122 (by decide +kernel)
theorem w_K_finish_im : Cond.instanceMethod y_K_finish ∈ zt := tb_at 120 (by decide +kernel)
theorem w_K_finish_se : Cond.selects R_K y_K_finish y_K_finish ∈ zt := tb_at 121 (by decide +kernel)
theorem w_K_finish_cw {R : Room} {s : State} {args : Array Value} {own : String} {index : Nat} {rm : Room} (hts : ∀ w ∈ zt, w.before args s = true) (hl : Cond.methodLink own index y_K_finish ∈ zt) (hrc : rm.cells = 0) (hrs : rm.slots = 0) (hR : rm.frames + 1 ≤ R.frames ∧ 8 + (2 + 11) + rm.locals ≤ R.locals) : CallW R s args own R_K index y_K_finish b_K_finish 2 none (Cond.code y_K_finish b_K_finish 2 none :: zt) rm 0 0 1 := ⟨callB_of 1 hts (zgood w_K_finish_co) rfl hrc hrs (hts _ q_in_K) (hts _ hl) (by decide +kernel) hR, hts _ w_K_finish_im, hts _ w_K_finish_se⟩
theorem w_K_gatherNothing_co : Cond.code y_K_gatherNothing b_K_gatherNothing 1 none ∈ zt := tb_at 99 (by decide +kernel)
theorem w_K_gatherNothing_im : Cond.instanceMethod y_K_gatherNothing ∈ zt := tb_at 98 (by decide +kernel)
theorem w_K_gatherNothing_se : Cond.selects R_K y_K_gatherNothing y_K_gatherNothing ∈ zt := tb_se 3 (by decide +kernel)
theorem w_K_gatherNothing_cw {R : Room} {s : State} {args : Array Value} {own : String} {index : Nat} {rm : Room} (hts : ∀ w ∈ zt, w.before args s = true) (hl : Cond.methodLink own index y_K_gatherNothing ∈ zt) (hrc : rm.cells = 0) (hrs : rm.slots = 0) (hR : rm.frames + 1 ≤ R.frames ∧ 8 + (1 + 11) + rm.locals ≤ R.locals) : CallW R s args own R_K index y_K_gatherNothing b_K_gatherNothing 1 none (Cond.code y_K_gatherNothing b_K_gatherNothing 1 none :: zt) rm 0 0 0 := ⟨callB_of 0 hts (zgood w_K_gatherNothing_co) rfl hrc hrs (hts _ q_in_K) (hts _ hl) (by decide +kernel) hR, hts _ w_K_gatherNothing_im, hts _ w_K_gatherNothing_se⟩
theorem w_K_settle_co : Cond.code y_K_settle b_K_settle 11 none ∈ zt := tb_at 109 (by decide +kernel)
theorem w_K_settle_im : Cond.instanceMethod y_K_settle ∈ zt := tb_at 108 (by decide +kernel)
theorem w_K_settle_se : Cond.selects R_K y_K_settle y_K_settle ∈ zt := tb_se 4 (by decide +kernel)
theorem w_K_settle_cw {R : Room} {s : State} {args : Array Value} {own : String} {index : Nat} {rm : Room} (hts : ∀ w ∈ zt, w.before args s = true) (hl : Cond.methodLink own index y_K_settle ∈ zt) (hrc : rm.cells = 0) (hrs : rm.slots = 0) (hR : rm.frames + 1 ≤ R.frames ∧ 8 + (11 + 11) + rm.locals ≤ R.locals) : CallW R s args own R_K index y_K_settle b_K_settle 11 none (Cond.code y_K_settle b_K_settle 11 none :: zt) rm 0 0 0 := ⟨callB_of 0 hts (zgood w_K_settle_co) rfl hrc hrs (hts _ q_in_K) (hts _ hl) (by decide +kernel) hR, hts _ w_K_settle_im, hts _ w_K_settle_se⟩
theorem w_JM_floorMod_co : Cond.code y_JM_floorMod b_JM_floorMod 6 (some .long) ∈ zt := tb_at 352 (by decide +kernel)
theorem w_JM_floorMod_st : Cond.static y_JM_floorMod ∈ zt := tb_at 351 (by decide +kernel)
theorem w_JM_floorMod_cw {R : Room} {s : State} {args : Array Value} {own : String} {index : Nat} {rm : Room} (hts : ∀ w ∈ zt, w.before args s = true) (hl : Cond.methodLink own index y_JM_floorMod ∈ zt) (hrc : rm.cells = 0) (hrs : rm.slots = 0) (hR : rm.frames + 1 ≤ R.frames ∧ 8 + (6 + 11) + rm.locals ≤ R.locals) : CallB R s args own index y_JM_floorMod b_JM_floorMod 6 (some .long) (Cond.code y_JM_floorMod b_JM_floorMod 6 (some .long) :: zt) rm 0 0 2 ∧ (Cond.static y_JM_floorMod).before args s = true := ⟨callB_of 2 hts (zgood w_JM_floorMod_co) rfl hrc hrs (hts _ q_in_JM) (hts _ hl) (by decide +kernel) hR, hts _ w_JM_floorMod_st⟩
theorem w_JI_numberOfLeadingZeros_co : Cond.code y_JI_numberOfLeadingZeros b_JI_numberOfLeadingZeros 2 (some .int) ∈ zt := tb_at 316 (by decide +kernel)
theorem w_JI_numberOfLeadingZeros_st : Cond.static y_JI_numberOfLeadingZeros ∈ zt := tb_at 315 (by decide +kernel)
theorem w_JI_numberOfLeadingZeros_cw {R : Room} {s : State} {args : Array Value} {own : String} {index : Nat} {rm : Room} (hts : ∀ w ∈ zt, w.before args s = true) (hl : Cond.methodLink own index y_JI_numberOfLeadingZeros ∈ zt) (hrc : rm.cells = 0) (hrs : rm.slots = 0) (hR : rm.frames + 1 ≤ R.frames ∧ 8 + (2 + 11) + rm.locals ≤ R.locals) : CallB R s args own index y_JI_numberOfLeadingZeros b_JI_numberOfLeadingZeros 2 (some .int) (Cond.code y_JI_numberOfLeadingZeros b_JI_numberOfLeadingZeros 2 (some .int) :: zt) rm 0 0 1 ∧ (Cond.static y_JI_numberOfLeadingZeros).before args s = true := ⟨callB_of 1 hts (zgood w_JI_numberOfLeadingZeros_co) rfl hrc hrs (hts _ q_in_JI) (hts _ hl) (by decide +kernel) hR, hts _ w_JI_numberOfLeadingZeros_st⟩
end
section
theorem d_B_init_0 : decode b_B_init 0 = .ok (.aload_n 0, 1) := by decide +kernel
theorem d_B_init_1 : decode b_B_init 1 = .ok (.invokespecial 3, 3) := by decide +kernel
theorem d_B_init_4 : decode b_B_init 4 = .ok (.aload_n 0, 1) := by decide +kernel
theorem d_B_init_5 : decode b_B_init 5 = .ok (.sipush 512, 3) := by decide +kernel
theorem d_B_init_8 : decode b_B_init 8 = .ok (.newarray .int, 2) := by decide +kernel
theorem d_B_init_10 : decode b_B_init 10 = .ok (.putfield 9, 3) := by decide +kernel
theorem d_B_init_13 : decode b_B_init 13 = .ok (.return_, 1) := by decide +kernel
theorem d_B_set_0 : decode b_B_set 0 = .ok (.aload_n 0, 1) := by decide +kernel
theorem d_B_set_1 : decode b_B_set 1 = .ok (.iconst 0, 1) := by decide +kernel
theorem d_B_set_2 : decode b_B_set 2 = .ok (.putfield 15, 3) := by decide +kernel
theorem d_B_set_5 : decode b_B_set 5 = .ok (.aload_n 0, 1) := by decide +kernel
theorem d_B_set_6 : decode b_B_set 6 = .ok (.iconst 0, 1) := by decide +kernel
theorem d_B_set_7 : decode b_B_set 7 = .ok (.iload_n 1, 1) := by decide +kernel
theorem d_B_set_8 : decode b_B_set 8 = .ok (.i2l, 1) := by decide +kernel
theorem d_B_set_9 : decode b_B_set 9 = .ok (.invokevirtual 19, 3) := by decide +kernel
theorem d_B_set_12 : decode b_B_set 12 = .ok (.return_, 1) := by decide +kernel
theorem d_B_copy_0 : decode b_B_copy 0 = .ok (.aload_n 0, 1) := by decide +kernel
theorem d_B_copy_1 : decode b_B_copy 1 = .ok (.aload_n 1, 1) := by decide +kernel
theorem d_B_copy_2 : decode b_B_copy 2 = .ok (.getfield 15, 3) := by decide +kernel
theorem d_B_copy_5 : decode b_B_copy 5 = .ok (.putfield 15, 3) := by decide +kernel
theorem d_B_copy_8 : decode b_B_copy 8 = .ok (.aload_n 0, 1) := by decide +kernel
theorem d_B_copy_9 : decode b_B_copy 9 = .ok (.aload_n 1, 1) := by decide +kernel
theorem d_B_copy_10 : decode b_B_copy 10 = .ok (.getfield 23, 3) := by decide +kernel
theorem d_B_copy_13 : decode b_B_copy 13 = .ok (.putfield 23, 3) := by decide +kernel
theorem d_B_copy_16 : decode b_B_copy 16 = .ok (.aload_n 1, 1) := by decide +kernel
theorem d_B_copy_17 : decode b_B_copy 17 = .ok (.getfield 9, 3) := by decide +kernel
theorem d_B_copy_20 : decode b_B_copy 20 = .ok (.iconst 0, 1) := by decide +kernel
theorem d_B_copy_21 : decode b_B_copy 21 = .ok (.aload_n 0, 1) := by decide +kernel
theorem d_B_copy_22 : decode b_B_copy 22 = .ok (.getfield 9, 3) := by decide +kernel
theorem d_B_copy_25 : decode b_B_copy 25 = .ok (.iconst 0, 1) := by decide +kernel
theorem d_B_copy_26 : decode b_B_copy 26 = .ok (.aload_n 1, 1) := by decide +kernel
theorem d_B_copy_27 : decode b_B_copy 27 = .ok (.getfield 23, 3) := by decide +kernel
theorem d_B_copy_30 : decode b_B_copy 30 = .ok (.invokestatic 27, 3) := by decide +kernel
theorem d_B_copy_33 : decode b_B_copy 33 = .ok (.return_, 1) := by decide +kernel
theorem d_B_signum_0 : decode b_B_signum 0 = .ok (.aload_n 0, 1) := by decide +kernel
theorem d_B_signum_1 : decode b_B_signum 1 = .ok (.getfield 23, 3) := by decide +kernel
theorem d_B_signum_4 : decode b_B_signum 4 = .ok (.ifCond .ne 5, 3) := by decide +kernel
theorem d_B_signum_7 : decode b_B_signum 7 = .ok (.iconst 0, 1) := by decide +kernel
theorem d_B_signum_8 : decode b_B_signum 8 = .ok (.ireturn, 1) := by decide +kernel
theorem d_B_signum_9 : decode b_B_signum 9 = .ok (.aload_n 0, 1) := by decide +kernel
theorem d_B_signum_10 : decode b_B_signum 10 = .ok (.getfield 15, 3) := by decide +kernel
theorem d_B_signum_13 : decode b_B_signum 13 = .ok (.ifCond .eq 7, 3) := by decide +kernel
theorem d_B_signum_16 : decode b_B_signum 16 = .ok (.iconst (-1), 1) := by decide +kernel
theorem d_B_signum_17 : decode b_B_signum 17 = .ok (.goto 4, 3) := by decide +kernel
theorem d_B_signum_20 : decode b_B_signum 20 = .ok (.iconst 1, 1) := by decide +kernel
theorem d_B_signum_21 : decode b_B_signum 21 = .ok (.ireturn, 1) := by decide +kernel
theorem d_B_countBits_0 : decode b_B_countBits 0 = .ok (.aload_n 0, 1) := by decide +kernel
theorem d_B_countBits_1 : decode b_B_countBits 1 = .ok (.getfield 23, 3) := by decide +kernel
theorem d_B_countBits_4 : decode b_B_countBits 4 = .ok (.ifCond .ne 5, 3) := by decide +kernel
theorem d_B_countBits_7 : decode b_B_countBits 7 = .ok (.iconst 0, 1) := by decide +kernel
theorem d_B_countBits_8 : decode b_B_countBits 8 = .ok (.ireturn, 1) := by decide +kernel
theorem d_B_countBits_9 : decode b_B_countBits 9 = .ok (.bipush 32, 2) := by decide +kernel
theorem d_B_countBits_11 : decode b_B_countBits 11 = .ok (.aload_n 0, 1) := by decide +kernel
theorem d_B_countBits_12 : decode b_B_countBits 12 = .ok (.getfield 23, 3) := by decide +kernel
theorem d_B_countBits_15 : decode b_B_countBits 15 = .ok (.imul, 1) := by decide +kernel
theorem d_B_countBits_16 : decode b_B_countBits 16 = .ok (.aload_n 0, 1) := by decide +kernel
theorem d_B_countBits_17 : decode b_B_countBits 17 = .ok (.getfield 9, 3) := by decide +kernel
theorem d_B_countBits_20 : decode b_B_countBits 20 = .ok (.aload_n 0, 1) := by decide +kernel
theorem d_B_countBits_21 : decode b_B_countBits 21 = .ok (.getfield 23, 3) := by decide +kernel
theorem d_B_countBits_24 : decode b_B_countBits 24 = .ok (.iconst 1, 1) := by decide +kernel
theorem d_B_countBits_25 : decode b_B_countBits 25 = .ok (.isub, 1) := by decide +kernel
theorem d_B_countBits_26 : decode b_B_countBits 26 = .ok (.iaload, 1) := by decide +kernel
theorem d_B_countBits_27 : decode b_B_countBits 27 = .ok (.invokestatic 33, 3) := by decide +kernel
theorem d_B_countBits_30 : decode b_B_countBits 30 = .ok (.isub, 1) := by decide +kernel
theorem d_B_countBits_31 : decode b_B_countBits 31 = .ok (.ireturn, 1) := by decide +kernel
theorem d_B_wordAt_0 : decode b_B_wordAt 0 = .ok (.iload_n 1, 1) := by decide +kernel
theorem d_B_wordAt_1 : decode b_B_wordAt 1 = .ok (.aload_n 0, 1) := by decide +kernel
theorem d_B_wordAt_2 : decode b_B_wordAt 2 = .ok (.getfield 23, 3) := by decide +kernel
theorem d_B_wordAt_5 : decode b_B_wordAt 5 = .ok (.if_icmp .ge 12, 3) := by decide +kernel
theorem d_B_wordAt_8 : decode b_B_wordAt 8 = .ok (.aload_n 0, 1) := by decide +kernel
theorem d_B_wordAt_9 : decode b_B_wordAt 9 = .ok (.getfield 9, 3) := by decide +kernel
theorem d_B_wordAt_12 : decode b_B_wordAt 12 = .ok (.iload_n 1, 1) := by decide +kernel
theorem d_B_wordAt_13 : decode b_B_wordAt 13 = .ok (.iaload, 1) := by decide +kernel
theorem d_B_wordAt_14 : decode b_B_wordAt 14 = .ok (.goto 4, 3) := by decide +kernel
theorem d_B_wordAt_17 : decode b_B_wordAt 17 = .ok (.iconst 0, 1) := by decide +kernel
theorem d_B_wordAt_18 : decode b_B_wordAt 18 = .ok (.ireturn, 1) := by decide +kernel
theorem d_B_modulo_0 : decode b_B_modulo 0 = .ok (.lconst 0, 1) := by decide +kernel
theorem d_B_modulo_1 : decode b_B_modulo 1 = .ok (.lstore_n 2, 1) := by decide +kernel
theorem d_B_modulo_2 : decode b_B_modulo 2 = .ok (.aload_n 0, 1) := by decide +kernel
theorem d_B_modulo_3 : decode b_B_modulo 3 = .ok (.getfield 23, 3) := by decide +kernel
theorem d_B_modulo_6 : decode b_B_modulo 6 = .ok (.iconst 1, 1) := by decide +kernel
theorem d_B_modulo_7 : decode b_B_modulo 7 = .ok (.isub, 1) := by decide +kernel
theorem d_B_modulo_8 : decode b_B_modulo 8 = .ok (.istore 4, 2) := by decide +kernel
theorem d_B_modulo_10 : decode b_B_modulo 10 = .ok (.iload 4, 2) := by decide +kernel
theorem d_B_modulo_12 : decode b_B_modulo 12 = .ok (.ifCond .lt 30, 3) := by decide +kernel
theorem d_B_modulo_15 : decode b_B_modulo 15 = .ok (.lload_n 2, 1) := by decide +kernel
theorem d_B_modulo_16 : decode b_B_modulo 16 = .ok (.bipush 32, 2) := by decide +kernel
theorem d_B_modulo_18 : decode b_B_modulo 18 = .ok (.lshl, 1) := by decide +kernel
theorem d_B_modulo_19 : decode b_B_modulo 19 = .ok (.aload_n 0, 1) := by decide +kernel
theorem d_B_modulo_20 : decode b_B_modulo 20 = .ok (.getfield 9, 3) := by decide +kernel
theorem d_B_modulo_23 : decode b_B_modulo 23 = .ok (.iload 4, 2) := by decide +kernel
theorem d_B_modulo_25 : decode b_B_modulo 25 = .ok (.iaload, 1) := by decide +kernel
theorem d_B_modulo_26 : decode b_B_modulo 26 = .ok (.i2l, 1) := by decide +kernel
theorem d_B_modulo_27 : decode b_B_modulo 27 = .ok (.ldc2_w 39, 3) := by decide +kernel
theorem d_B_modulo_30 : decode b_B_modulo 30 = .ok (.land, 1) := by decide +kernel
theorem d_B_modulo_31 : decode b_B_modulo 31 = .ok (.lor, 1) := by decide +kernel
theorem d_B_modulo_32 : decode b_B_modulo 32 = .ok (.iload_n 1, 1) := by decide +kernel
theorem d_B_modulo_33 : decode b_B_modulo 33 = .ok (.i2l, 1) := by decide +kernel
theorem d_B_modulo_34 : decode b_B_modulo 34 = .ok (.lrem, 1) := by decide +kernel
theorem d_B_modulo_35 : decode b_B_modulo 35 = .ok (.lstore_n 2, 1) := by decide +kernel
theorem d_B_modulo_36 : decode b_B_modulo 36 = .ok (.iinc 4 (-1), 3) := by decide +kernel
theorem d_B_modulo_39 : decode b_B_modulo 39 = .ok (.goto (-29), 3) := by decide +kernel
theorem d_B_modulo_42 : decode b_B_modulo 42 = .ok (.aload_n 0, 1) := by decide +kernel
theorem d_B_modulo_43 : decode b_B_modulo 43 = .ok (.getfield 15, 3) := by decide +kernel
theorem d_B_modulo_46 : decode b_B_modulo 46 = .ok (.ifCond .eq 16, 3) := by decide +kernel
theorem d_B_modulo_49 : decode b_B_modulo 49 = .ok (.lload_n 2, 1) := by decide +kernel
theorem d_B_modulo_50 : decode b_B_modulo 50 = .ok (.lconst 0, 1) := by decide +kernel
theorem d_B_modulo_51 : decode b_B_modulo 51 = .ok (.lcmp, 1) := by decide +kernel
theorem d_B_modulo_52 : decode b_B_modulo 52 = .ok (.ifCond .le 10, 3) := by decide +kernel
theorem d_B_modulo_55 : decode b_B_modulo 55 = .ok (.iload_n 1, 1) := by decide +kernel
theorem d_B_modulo_56 : decode b_B_modulo 56 = .ok (.i2l, 1) := by decide +kernel
theorem d_B_modulo_57 : decode b_B_modulo 57 = .ok (.lload_n 2, 1) := by decide +kernel
theorem d_B_modulo_58 : decode b_B_modulo 58 = .ok (.lsub, 1) := by decide +kernel
theorem d_B_modulo_59 : decode b_B_modulo 59 = .ok (.goto 4, 3) := by decide +kernel
theorem d_B_modulo_62 : decode b_B_modulo 62 = .ok (.lload_n 2, 1) := by decide +kernel
theorem d_B_modulo_63 : decode b_B_modulo 63 = .ok (.lreturn, 1) := by decide +kernel
theorem d_B_close_0 : decode b_B_close 0 = .ok (.aload_n 0, 1) := by decide +kernel
theorem d_B_close_1 : decode b_B_close 1 = .ok (.iload_n 1, 1) := by decide +kernel
theorem d_B_close_2 : decode b_B_close 2 = .ok (.putfield 23, 3) := by decide +kernel
theorem d_B_close_5 : decode b_B_close 5 = .ok (.lload_n 2, 1) := by decide +kernel
theorem d_B_close_6 : decode b_B_close 6 = .ok (.lconst 0, 1) := by decide +kernel
theorem d_B_close_7 : decode b_B_close 7 = .ok (.lcmp, 1) := by decide +kernel
theorem d_B_close_8 : decode b_B_close 8 = .ok (.ifCond .eq 34, 3) := by decide +kernel
theorem d_B_close_11 : decode b_B_close 11 = .ok (.aload_n 0, 1) := by decide +kernel
theorem d_B_close_12 : decode b_B_close 12 = .ok (.getfield 23, 3) := by decide +kernel
theorem d_B_close_15 : decode b_B_close 15 = .ok (.sipush 512, 3) := by decide +kernel
theorem d_B_close_18 : decode b_B_close 18 = .ok (.if_icmp .ge 24, 3) := by decide +kernel
theorem d_B_close_21 : decode b_B_close 21 = .ok (.aload_n 0, 1) := by decide +kernel
theorem d_B_close_22 : decode b_B_close 22 = .ok (.getfield 9, 3) := by decide +kernel
theorem d_B_close_25 : decode b_B_close 25 = .ok (.aload_n 0, 1) := by decide +kernel
theorem d_B_close_26 : decode b_B_close 26 = .ok (.getfield 23, 3) := by decide +kernel
theorem d_B_close_29 : decode b_B_close 29 = .ok (.lload_n 2, 1) := by decide +kernel
theorem d_B_close_30 : decode b_B_close 30 = .ok (.l2i, 1) := by decide +kernel
theorem d_B_close_31 : decode b_B_close 31 = .ok (.iastore, 1) := by decide +kernel
theorem d_B_close_32 : decode b_B_close 32 = .ok (.aload_n 0, 1) := by decide +kernel
theorem d_B_close_33 : decode b_B_close 33 = .ok (.dup, 1) := by decide +kernel
theorem d_B_close_34 : decode b_B_close 34 = .ok (.getfield 23, 3) := by decide +kernel
theorem d_B_close_37 : decode b_B_close 37 = .ok (.iconst 1, 1) := by decide +kernel
theorem d_B_close_38 : decode b_B_close 38 = .ok (.iadd, 1) := by decide +kernel
theorem d_B_close_39 : decode b_B_close 39 = .ok (.putfield 23, 3) := by decide +kernel
theorem d_B_close_42 : decode b_B_close 42 = .ok (.aload_n 0, 1) := by decide +kernel
theorem d_B_close_43 : decode b_B_close 43 = .ok (.getfield 23, 3) := by decide +kernel
theorem d_B_close_46 : decode b_B_close 46 = .ok (.ifCond .le 30, 3) := by decide +kernel
theorem d_B_close_49 : decode b_B_close 49 = .ok (.aload_n 0, 1) := by decide +kernel
theorem d_B_close_50 : decode b_B_close 50 = .ok (.getfield 9, 3) := by decide +kernel
theorem d_B_close_53 : decode b_B_close 53 = .ok (.aload_n 0, 1) := by decide +kernel
theorem d_B_close_54 : decode b_B_close 54 = .ok (.getfield 23, 3) := by decide +kernel
theorem d_B_close_57 : decode b_B_close 57 = .ok (.iconst 1, 1) := by decide +kernel
theorem d_B_close_58 : decode b_B_close 58 = .ok (.isub, 1) := by decide +kernel
theorem d_B_close_59 : decode b_B_close 59 = .ok (.iaload, 1) := by decide +kernel
theorem d_B_close_60 : decode b_B_close 60 = .ok (.ifCond .ne 16, 3) := by decide +kernel
theorem d_B_close_63 : decode b_B_close 63 = .ok (.aload_n 0, 1) := by decide +kernel
theorem d_B_close_64 : decode b_B_close 64 = .ok (.dup, 1) := by decide +kernel
theorem d_B_close_65 : decode b_B_close 65 = .ok (.getfield 23, 3) := by decide +kernel
theorem d_B_close_68 : decode b_B_close 68 = .ok (.iconst 1, 1) := by decide +kernel
theorem d_B_close_69 : decode b_B_close 69 = .ok (.isub, 1) := by decide +kernel
theorem d_B_close_70 : decode b_B_close 70 = .ok (.putfield 23, 3) := by decide +kernel
theorem d_B_close_73 : decode b_B_close 73 = .ok (.goto (-31), 3) := by decide +kernel
theorem d_B_close_76 : decode b_B_close 76 = .ok (.return_, 1) := by decide +kernel
theorem d_B_setTimes_0 : decode b_B_setTimes 0 = .ok (.iload_n 2, 1) := by decide +kernel
theorem d_B_setTimes_1 : decode b_B_setTimes 1 = .ok (.i2l, 1) := by decide +kernel
theorem d_B_setTimes_2 : decode b_B_setTimes 2 = .ok (.invokestatic 41, 3) := by decide +kernel
theorem d_B_setTimes_5 : decode b_B_setTimes 5 = .ok (.lstore_n 3, 1) := by decide +kernel
theorem d_B_setTimes_6 : decode b_B_setTimes 6 = .ok (.lconst 0, 1) := by decide +kernel
theorem d_B_setTimes_7 : decode b_B_setTimes 7 = .ok (.lstore 5, 2) := by decide +kernel
theorem d_B_setTimes_9 : decode b_B_setTimes 9 = .ok (.iconst 0, 1) := by decide +kernel
theorem d_B_setTimes_10 : decode b_B_setTimes 10 = .ok (.istore 7, 2) := by decide +kernel
theorem d_B_setTimes_12 : decode b_B_setTimes 12 = .ok (.iload 7, 2) := by decide +kernel
theorem d_B_setTimes_14 : decode b_B_setTimes 14 = .ok (.aload_n 1, 1) := by decide +kernel
theorem d_B_setTimes_15 : decode b_B_setTimes 15 = .ok (.getfield 23, 3) := by decide +kernel
theorem d_B_setTimes_18 : decode b_B_setTimes 18 = .ok (.if_icmp .ge 45, 3) := by decide +kernel
theorem d_B_setTimes_21 : decode b_B_setTimes 21 = .ok (.lload 5, 2) := by decide +kernel
theorem d_B_setTimes_23 : decode b_B_setTimes 23 = .ok (.aload_n 1, 1) := by decide +kernel
theorem d_B_setTimes_24 : decode b_B_setTimes 24 = .ok (.getfield 9, 3) := by decide +kernel
theorem d_B_setTimes_27 : decode b_B_setTimes 27 = .ok (.iload 7, 2) := by decide +kernel
theorem d_B_setTimes_29 : decode b_B_setTimes 29 = .ok (.iaload, 1) := by decide +kernel
theorem d_B_setTimes_30 : decode b_B_setTimes 30 = .ok (.i2l, 1) := by decide +kernel
theorem d_B_setTimes_31 : decode b_B_setTimes 31 = .ok (.ldc2_w 39, 3) := by decide +kernel
theorem d_B_setTimes_34 : decode b_B_setTimes 34 = .ok (.land, 1) := by decide +kernel
theorem d_B_setTimes_35 : decode b_B_setTimes 35 = .ok (.lload_n 3, 1) := by decide +kernel
theorem d_B_setTimes_36 : decode b_B_setTimes 36 = .ok (.lmul, 1) := by decide +kernel
theorem d_B_setTimes_37 : decode b_B_setTimes 37 = .ok (.ladd, 1) := by decide +kernel
theorem d_B_setTimes_38 : decode b_B_setTimes 38 = .ok (.lstore 5, 2) := by decide +kernel
theorem d_B_setTimes_40 : decode b_B_setTimes 40 = .ok (.aload_n 0, 1) := by decide +kernel
theorem d_B_setTimes_41 : decode b_B_setTimes 41 = .ok (.getfield 9, 3) := by decide +kernel
theorem d_B_setTimes_44 : decode b_B_setTimes 44 = .ok (.iload 7, 2) := by decide +kernel
theorem d_B_setTimes_46 : decode b_B_setTimes 46 = .ok (.lload 5, 2) := by decide +kernel
theorem d_B_setTimes_48 : decode b_B_setTimes 48 = .ok (.l2i, 1) := by decide +kernel
theorem d_B_setTimes_49 : decode b_B_setTimes 49 = .ok (.iastore, 1) := by decide +kernel
theorem d_B_setTimes_50 : decode b_B_setTimes 50 = .ok (.lload 5, 2) := by decide +kernel
theorem d_B_setTimes_52 : decode b_B_setTimes 52 = .ok (.bipush 32, 2) := by decide +kernel
theorem d_B_setTimes_54 : decode b_B_setTimes 54 = .ok (.lushr, 1) := by decide +kernel
theorem d_B_setTimes_55 : decode b_B_setTimes 55 = .ok (.lstore 5, 2) := by decide +kernel
theorem d_B_setTimes_57 : decode b_B_setTimes 57 = .ok (.iinc 7 1, 3) := by decide +kernel
theorem d_B_setTimes_60 : decode b_B_setTimes 60 = .ok (.goto (-48), 3) := by decide +kernel
theorem d_B_setTimes_63 : decode b_B_setTimes 63 = .ok (.aload_n 0, 1) := by decide +kernel
theorem d_B_setTimes_64 : decode b_B_setTimes 64 = .ok (.aload_n 1, 1) := by decide +kernel
theorem d_B_setTimes_65 : decode b_B_setTimes 65 = .ok (.getfield 15, 3) := by decide +kernel
theorem d_B_setTimes_68 : decode b_B_setTimes 68 = .ok (.iload_n 2, 1) := by decide +kernel
theorem d_B_setTimes_69 : decode b_B_setTimes 69 = .ok (.ifCond .ge 7, 3) := by decide +kernel
theorem d_B_setTimes_72 : decode b_B_setTimes 72 = .ok (.iconst 1, 1) := by decide +kernel
theorem d_B_setTimes_73 : decode b_B_setTimes 73 = .ok (.goto 4, 3) := by decide +kernel
theorem d_B_setTimes_76 : decode b_B_setTimes 76 = .ok (.iconst 0, 1) := by decide +kernel
theorem d_B_setTimes_77 : decode b_B_setTimes 77 = .ok (.if_icmp .eq 7, 3) := by decide +kernel
theorem d_B_setTimes_80 : decode b_B_setTimes 80 = .ok (.iconst 1, 1) := by decide +kernel
theorem d_B_setTimes_81 : decode b_B_setTimes 81 = .ok (.goto 4, 3) := by decide +kernel
theorem d_B_setTimes_84 : decode b_B_setTimes 84 = .ok (.iconst 0, 1) := by decide +kernel
theorem d_B_setTimes_85 : decode b_B_setTimes 85 = .ok (.putfield 15, 3) := by decide +kernel
theorem d_B_setTimes_88 : decode b_B_setTimes 88 = .ok (.aload_n 0, 1) := by decide +kernel
theorem d_B_setTimes_89 : decode b_B_setTimes 89 = .ok (.aload_n 1, 1) := by decide +kernel
theorem d_B_setTimes_90 : decode b_B_setTimes 90 = .ok (.getfield 23, 3) := by decide +kernel
theorem d_B_setTimes_93 : decode b_B_setTimes 93 = .ok (.lload 5, 2) := by decide +kernel
theorem d_B_setTimes_95 : decode b_B_setTimes 95 = .ok (.invokevirtual 19, 3) := by decide +kernel
theorem d_B_setTimes_98 : decode b_B_setTimes 98 = .ok (.return_, 1) := by decide +kernel
theorem d_B_setProduct_0 : decode b_B_setProduct 0 = .ok (.aload_n 1, 1) := by decide +kernel
theorem d_B_setProduct_1 : decode b_B_setProduct 1 = .ok (.getfield 23, 3) := by decide +kernel
theorem d_B_setProduct_4 : decode b_B_setProduct 4 = .ok (.aload_n 2, 1) := by decide +kernel
theorem d_B_setProduct_5 : decode b_B_setProduct 5 = .ok (.getfield 23, 3) := by decide +kernel
theorem d_B_setProduct_8 : decode b_B_setProduct 8 = .ok (.iadd, 1) := by decide +kernel
theorem d_B_setProduct_9 : decode b_B_setProduct 9 = .ok (.sipush 512, 3) := by decide +kernel
theorem d_B_setProduct_12 : decode b_B_setProduct 12 = .ok (.invokestatic 47, 3) := by decide +kernel
theorem d_B_setProduct_15 : decode b_B_setProduct 15 = .ok (.istore_n 3, 1) := by decide +kernel
theorem d_B_setProduct_16 : decode b_B_setProduct 16 = .ok (.iconst 0, 1) := by decide +kernel
theorem d_B_setProduct_17 : decode b_B_setProduct 17 = .ok (.istore 4, 2) := by decide +kernel
theorem d_B_setProduct_19 : decode b_B_setProduct 19 = .ok (.iload 4, 2) := by decide +kernel
theorem d_B_setProduct_21 : decode b_B_setProduct 21 = .ok (.iload_n 3, 1) := by decide +kernel
theorem d_B_setProduct_22 : decode b_B_setProduct 22 = .ok (.if_icmp .ge 17, 3) := by decide +kernel
theorem d_B_setProduct_25 : decode b_B_setProduct 25 = .ok (.aload_n 0, 1) := by decide +kernel
theorem d_B_setProduct_26 : decode b_B_setProduct 26 = .ok (.getfield 9, 3) := by decide +kernel
theorem d_B_setProduct_29 : decode b_B_setProduct 29 = .ok (.iload 4, 2) := by decide +kernel
theorem d_B_setProduct_31 : decode b_B_setProduct 31 = .ok (.iconst 0, 1) := by decide +kernel
theorem d_B_setProduct_32 : decode b_B_setProduct 32 = .ok (.iastore, 1) := by decide +kernel
theorem d_B_setProduct_33 : decode b_B_setProduct 33 = .ok (.iinc 4 1, 3) := by decide +kernel
theorem d_B_setProduct_36 : decode b_B_setProduct 36 = .ok (.goto (-17), 3) := by decide +kernel
theorem d_B_setProduct_39 : decode b_B_setProduct 39 = .ok (.iconst 0, 1) := by decide +kernel
theorem d_B_setProduct_40 : decode b_B_setProduct 40 = .ok (.istore 4, 2) := by decide +kernel
theorem d_B_setProduct_42 : decode b_B_setProduct 42 = .ok (.iload 4, 2) := by decide +kernel
theorem d_B_setProduct_44 : decode b_B_setProduct 44 = .ok (.aload_n 1, 1) := by decide +kernel
theorem d_B_setProduct_45 : decode b_B_setProduct 45 = .ok (.getfield 23, 3) := by decide +kernel
theorem d_B_setProduct_48 : decode b_B_setProduct 48 = .ok (.if_icmp .ge 28, 3) := by decide +kernel
theorem d_B_setProduct_51 : decode b_B_setProduct 51 = .ok (.aload_n 0, 1) := by decide +kernel
theorem d_B_setProduct_52 : decode b_B_setProduct 52 = .ok (.aload_n 1, 1) := by decide +kernel
theorem d_B_setProduct_53 : decode b_B_setProduct 53 = .ok (.getfield 9, 3) := by decide +kernel
theorem d_B_setProduct_56 : decode b_B_setProduct 56 = .ok (.iload 4, 2) := by decide +kernel
theorem d_B_setProduct_58 : decode b_B_setProduct 58 = .ok (.iaload, 1) := by decide +kernel
theorem d_B_setProduct_59 : decode b_B_setProduct 59 = .ok (.i2l, 1) := by decide +kernel
theorem d_B_setProduct_60 : decode b_B_setProduct 60 = .ok (.ldc2_w 39, 3) := by decide +kernel
theorem d_B_setProduct_63 : decode b_B_setProduct 63 = .ok (.land, 1) := by decide +kernel
theorem d_B_setProduct_64 : decode b_B_setProduct 64 = .ok (.aload_n 2, 1) := by decide +kernel
theorem d_B_setProduct_65 : decode b_B_setProduct 65 = .ok (.iload 4, 2) := by decide +kernel
theorem d_B_setProduct_67 : decode b_B_setProduct 67 = .ok (.invokevirtual 51, 3) := by decide +kernel
theorem d_B_setProduct_70 : decode b_B_setProduct 70 = .ok (.iinc 4 1, 3) := by decide +kernel
theorem d_B_setProduct_73 : decode b_B_setProduct 73 = .ok (.goto (-31), 3) := by decide +kernel
theorem d_B_setProduct_76 : decode b_B_setProduct 76 = .ok (.aload_n 0, 1) := by decide +kernel
theorem d_B_setProduct_77 : decode b_B_setProduct 77 = .ok (.aload_n 1, 1) := by decide +kernel
theorem d_B_setProduct_78 : decode b_B_setProduct 78 = .ok (.getfield 15, 3) := by decide +kernel
theorem d_B_setProduct_81 : decode b_B_setProduct 81 = .ok (.aload_n 2, 1) := by decide +kernel
theorem d_B_setProduct_82 : decode b_B_setProduct 82 = .ok (.getfield 15, 3) := by decide +kernel
theorem d_B_setProduct_85 : decode b_B_setProduct 85 = .ok (.if_icmp .eq 7, 3) := by decide +kernel
theorem d_B_setProduct_88 : decode b_B_setProduct 88 = .ok (.iconst 1, 1) := by decide +kernel
theorem d_B_setProduct_89 : decode b_B_setProduct 89 = .ok (.goto 4, 3) := by decide +kernel
theorem d_B_setProduct_92 : decode b_B_setProduct 92 = .ok (.iconst 0, 1) := by decide +kernel
theorem d_B_setProduct_93 : decode b_B_setProduct 93 = .ok (.putfield 15, 3) := by decide +kernel
theorem d_B_setProduct_96 : decode b_B_setProduct 96 = .ok (.aload_n 0, 1) := by decide +kernel
theorem d_B_setProduct_97 : decode b_B_setProduct 97 = .ok (.iload_n 3, 1) := by decide +kernel
theorem d_B_setProduct_98 : decode b_B_setProduct 98 = .ok (.lconst 0, 1) := by decide +kernel
theorem d_B_setProduct_99 : decode b_B_setProduct 99 = .ok (.invokevirtual 19, 3) := by decide +kernel
theorem d_B_setProduct_102 : decode b_B_setProduct 102 = .ok (.return_, 1) := by decide +kernel
theorem d_B_addRow_0 : decode b_B_addRow 0 = .ok (.lconst 0, 1) := by decide +kernel
theorem d_B_addRow_1 : decode b_B_addRow 1 = .ok (.lstore 5, 2) := by decide +kernel
theorem d_B_addRow_3 : decode b_B_addRow 3 = .ok (.iload 4, 2) := by decide +kernel
theorem d_B_addRow_5 : decode b_B_addRow 5 = .ok (.aload_n 3, 1) := by decide +kernel
theorem d_B_addRow_6 : decode b_B_addRow 6 = .ok (.getfield 23, 3) := by decide +kernel
theorem d_B_addRow_9 : decode b_B_addRow 9 = .ok (.iadd, 1) := by decide +kernel
theorem d_B_addRow_10 : decode b_B_addRow 10 = .ok (.sipush 512, 3) := by decide +kernel
theorem d_B_addRow_13 : decode b_B_addRow 13 = .ok (.invokestatic 47, 3) := by decide +kernel
theorem d_B_addRow_16 : decode b_B_addRow 16 = .ok (.istore 7, 2) := by decide +kernel
theorem d_B_addRow_18 : decode b_B_addRow 18 = .ok (.iload 4, 2) := by decide +kernel
theorem d_B_addRow_20 : decode b_B_addRow 20 = .ok (.istore 8, 2) := by decide +kernel
theorem d_B_addRow_22 : decode b_B_addRow 22 = .ok (.iload 8, 2) := by decide +kernel
theorem d_B_addRow_24 : decode b_B_addRow 24 = .ok (.iload 7, 2) := by decide +kernel
theorem d_B_addRow_26 : decode b_B_addRow 26 = .ok (.if_icmp .ge 61, 3) := by decide +kernel
theorem d_B_addRow_29 : decode b_B_addRow 29 = .ok (.lload 5, 2) := by decide +kernel
theorem d_B_addRow_31 : decode b_B_addRow 31 = .ok (.lload_n 1, 1) := by decide +kernel
theorem d_B_addRow_32 : decode b_B_addRow 32 = .ok (.aload_n 3, 1) := by decide +kernel
theorem d_B_addRow_33 : decode b_B_addRow 33 = .ok (.getfield 9, 3) := by decide +kernel
theorem d_B_addRow_36 : decode b_B_addRow 36 = .ok (.iload 8, 2) := by decide +kernel
theorem d_B_addRow_38 : decode b_B_addRow 38 = .ok (.iload 4, 2) := by decide +kernel
theorem d_B_addRow_40 : decode b_B_addRow 40 = .ok (.isub, 1) := by decide +kernel
theorem d_B_addRow_41 : decode b_B_addRow 41 = .ok (.iaload, 1) := by decide +kernel
theorem d_B_addRow_42 : decode b_B_addRow 42 = .ok (.i2l, 1) := by decide +kernel
theorem d_B_addRow_43 : decode b_B_addRow 43 = .ok (.ldc2_w 39, 3) := by decide +kernel
theorem d_B_addRow_46 : decode b_B_addRow 46 = .ok (.land, 1) := by decide +kernel
theorem d_B_addRow_47 : decode b_B_addRow 47 = .ok (.lmul, 1) := by decide +kernel
theorem d_B_addRow_48 : decode b_B_addRow 48 = .ok (.aload_n 0, 1) := by decide +kernel
theorem d_B_addRow_49 : decode b_B_addRow 49 = .ok (.getfield 9, 3) := by decide +kernel
theorem d_B_addRow_52 : decode b_B_addRow 52 = .ok (.iload 8, 2) := by decide +kernel
theorem d_B_addRow_54 : decode b_B_addRow 54 = .ok (.iaload, 1) := by decide +kernel
theorem d_B_addRow_55 : decode b_B_addRow 55 = .ok (.i2l, 1) := by decide +kernel
theorem d_B_addRow_56 : decode b_B_addRow 56 = .ok (.ldc2_w 39, 3) := by decide +kernel
theorem d_B_addRow_59 : decode b_B_addRow 59 = .ok (.land, 1) := by decide +kernel
theorem d_B_addRow_60 : decode b_B_addRow 60 = .ok (.ladd, 1) := by decide +kernel
theorem d_B_addRow_61 : decode b_B_addRow 61 = .ok (.ladd, 1) := by decide +kernel
theorem d_B_addRow_62 : decode b_B_addRow 62 = .ok (.lstore 5, 2) := by decide +kernel
theorem d_B_addRow_64 : decode b_B_addRow 64 = .ok (.aload_n 0, 1) := by decide +kernel
theorem d_B_addRow_65 : decode b_B_addRow 65 = .ok (.getfield 9, 3) := by decide +kernel
theorem d_B_addRow_68 : decode b_B_addRow 68 = .ok (.iload 8, 2) := by decide +kernel
theorem d_B_addRow_70 : decode b_B_addRow 70 = .ok (.lload 5, 2) := by decide +kernel
theorem d_B_addRow_72 : decode b_B_addRow 72 = .ok (.l2i, 1) := by decide +kernel
theorem d_B_addRow_73 : decode b_B_addRow 73 = .ok (.iastore, 1) := by decide +kernel
theorem d_B_addRow_74 : decode b_B_addRow 74 = .ok (.lload 5, 2) := by decide +kernel
theorem d_B_addRow_76 : decode b_B_addRow 76 = .ok (.bipush 32, 2) := by decide +kernel
theorem d_B_addRow_78 : decode b_B_addRow 78 = .ok (.lushr, 1) := by decide +kernel
theorem d_B_addRow_79 : decode b_B_addRow 79 = .ok (.lstore 5, 2) := by decide +kernel
theorem d_B_addRow_81 : decode b_B_addRow 81 = .ok (.iinc 8 1, 3) := by decide +kernel
theorem d_B_addRow_84 : decode b_B_addRow 84 = .ok (.goto (-62), 3) := by decide +kernel
theorem d_B_addRow_87 : decode b_B_addRow 87 = .ok (.iload 7, 2) := by decide +kernel
theorem d_B_addRow_89 : decode b_B_addRow 89 = .ok (.sipush 512, 3) := by decide +kernel
theorem d_B_addRow_92 : decode b_B_addRow 92 = .ok (.if_icmp .ge 13, 3) := by decide +kernel
theorem d_B_addRow_95 : decode b_B_addRow 95 = .ok (.aload_n 0, 1) := by decide +kernel
theorem d_B_addRow_96 : decode b_B_addRow 96 = .ok (.getfield 9, 3) := by decide +kernel
theorem d_B_addRow_99 : decode b_B_addRow 99 = .ok (.iload 7, 2) := by decide +kernel
theorem d_B_addRow_101 : decode b_B_addRow 101 = .ok (.lload 5, 2) := by decide +kernel
theorem d_B_addRow_103 : decode b_B_addRow 103 = .ok (.l2i, 1) := by decide +kernel
theorem d_B_addRow_104 : decode b_B_addRow 104 = .ok (.iastore, 1) := by decide +kernel
theorem d_B_addRow_105 : decode b_B_addRow 105 = .ok (.return_, 1) := by decide +kernel
theorem d_B_addSmall_0 : decode b_B_addSmall 0 = .ok (.iload_n 1, 1) := by decide +kernel
theorem d_B_addSmall_1 : decode b_B_addSmall 1 = .ok (.i2l, 1) := by decide +kernel
theorem d_B_addSmall_2 : decode b_B_addSmall 2 = .ok (.lstore_n 2, 1) := by decide +kernel
theorem d_B_addSmall_3 : decode b_B_addSmall 3 = .ok (.iconst 0, 1) := by decide +kernel
theorem d_B_addSmall_4 : decode b_B_addSmall 4 = .ok (.istore 4, 2) := by decide +kernel
theorem d_B_addSmall_6 : decode b_B_addSmall 6 = .ok (.iload 4, 2) := by decide +kernel
theorem d_B_addSmall_8 : decode b_B_addSmall 8 = .ok (.aload_n 0, 1) := by decide +kernel
theorem d_B_addSmall_9 : decode b_B_addSmall 9 = .ok (.getfield 23, 3) := by decide +kernel
theorem d_B_addSmall_12 : decode b_B_addSmall 12 = .ok (.if_icmp .ge 44, 3) := by decide +kernel
theorem d_B_addSmall_15 : decode b_B_addSmall 15 = .ok (.lload_n 2, 1) := by decide +kernel
theorem d_B_addSmall_16 : decode b_B_addSmall 16 = .ok (.lconst 0, 1) := by decide +kernel
theorem d_B_addSmall_17 : decode b_B_addSmall 17 = .ok (.lcmp, 1) := by decide +kernel
theorem d_B_addSmall_18 : decode b_B_addSmall 18 = .ok (.ifCond .eq 38, 3) := by decide +kernel
theorem d_B_addSmall_21 : decode b_B_addSmall 21 = .ok (.lload_n 2, 1) := by decide +kernel
theorem d_B_addSmall_22 : decode b_B_addSmall 22 = .ok (.aload_n 0, 1) := by decide +kernel
theorem d_B_addSmall_23 : decode b_B_addSmall 23 = .ok (.getfield 9, 3) := by decide +kernel
theorem d_B_addSmall_26 : decode b_B_addSmall 26 = .ok (.iload 4, 2) := by decide +kernel
theorem d_B_addSmall_28 : decode b_B_addSmall 28 = .ok (.iaload, 1) := by decide +kernel
theorem d_B_addSmall_29 : decode b_B_addSmall 29 = .ok (.i2l, 1) := by decide +kernel
theorem d_B_addSmall_30 : decode b_B_addSmall 30 = .ok (.ldc2_w 39, 3) := by decide +kernel
theorem d_B_addSmall_33 : decode b_B_addSmall 33 = .ok (.land, 1) := by decide +kernel
theorem d_B_addSmall_34 : decode b_B_addSmall 34 = .ok (.ladd, 1) := by decide +kernel
theorem d_B_addSmall_35 : decode b_B_addSmall 35 = .ok (.lstore_n 2, 1) := by decide +kernel
theorem d_B_addSmall_36 : decode b_B_addSmall 36 = .ok (.aload_n 0, 1) := by decide +kernel
theorem d_B_addSmall_37 : decode b_B_addSmall 37 = .ok (.getfield 9, 3) := by decide +kernel
theorem d_B_addSmall_40 : decode b_B_addSmall 40 = .ok (.iload 4, 2) := by decide +kernel
theorem d_B_addSmall_42 : decode b_B_addSmall 42 = .ok (.lload_n 2, 1) := by decide +kernel
theorem d_B_addSmall_43 : decode b_B_addSmall 43 = .ok (.l2i, 1) := by decide +kernel
theorem d_B_addSmall_44 : decode b_B_addSmall 44 = .ok (.iastore, 1) := by decide +kernel
theorem d_B_addSmall_45 : decode b_B_addSmall 45 = .ok (.lload_n 2, 1) := by decide +kernel
theorem d_B_addSmall_46 : decode b_B_addSmall 46 = .ok (.bipush 32, 2) := by decide +kernel
theorem d_B_addSmall_48 : decode b_B_addSmall 48 = .ok (.lushr, 1) := by decide +kernel
theorem d_B_addSmall_49 : decode b_B_addSmall 49 = .ok (.lstore_n 2, 1) := by decide +kernel
theorem d_B_addSmall_50 : decode b_B_addSmall 50 = .ok (.iinc 4 1, 3) := by decide +kernel
theorem d_B_addSmall_53 : decode b_B_addSmall 53 = .ok (.goto (-47), 3) := by decide +kernel
theorem d_B_addSmall_56 : decode b_B_addSmall 56 = .ok (.aload_n 0, 1) := by decide +kernel
theorem d_B_addSmall_57 : decode b_B_addSmall 57 = .ok (.aload_n 0, 1) := by decide +kernel
theorem d_B_addSmall_58 : decode b_B_addSmall 58 = .ok (.getfield 23, 3) := by decide +kernel
theorem d_B_addSmall_61 : decode b_B_addSmall 61 = .ok (.lload_n 2, 1) := by decide +kernel
theorem d_B_addSmall_62 : decode b_B_addSmall 62 = .ok (.invokevirtual 19, 3) := by decide +kernel
theorem d_B_addSmall_65 : decode b_B_addSmall 65 = .ok (.return_, 1) := by decide +kernel
theorem d_B_setSum_0 : decode b_B_setSum 0 = .ok (.aload_n 1, 1) := by decide +kernel
theorem d_B_setSum_1 : decode b_B_setSum 1 = .ok (.getfield 23, 3) := by decide +kernel
theorem d_B_setSum_4 : decode b_B_setSum 4 = .ok (.aload_n 2, 1) := by decide +kernel
theorem d_B_setSum_5 : decode b_B_setSum 5 = .ok (.getfield 23, 3) := by decide +kernel
theorem d_B_setSum_8 : decode b_B_setSum 8 = .ok (.invokestatic 55, 3) := by decide +kernel
theorem d_B_setSum_11 : decode b_B_setSum 11 = .ok (.istore_n 3, 1) := by decide +kernel
theorem d_B_setSum_12 : decode b_B_setSum 12 = .ok (.lconst 0, 1) := by decide +kernel
theorem d_B_setSum_13 : decode b_B_setSum 13 = .ok (.lstore 4, 2) := by decide +kernel
theorem d_B_setSum_15 : decode b_B_setSum 15 = .ok (.iconst 0, 1) := by decide +kernel
theorem d_B_setSum_16 : decode b_B_setSum 16 = .ok (.istore 6, 2) := by decide +kernel
theorem d_B_setSum_18 : decode b_B_setSum 18 = .ok (.iload 6, 2) := by decide +kernel
theorem d_B_setSum_20 : decode b_B_setSum 20 = .ok (.iload_n 3, 1) := by decide +kernel
theorem d_B_setSum_21 : decode b_B_setSum 21 = .ok (.if_icmp .ge 54, 3) := by decide +kernel
theorem d_B_setSum_24 : decode b_B_setSum 24 = .ok (.lload 4, 2) := by decide +kernel
theorem d_B_setSum_26 : decode b_B_setSum 26 = .ok (.aload_n 1, 1) := by decide +kernel
theorem d_B_setSum_27 : decode b_B_setSum 27 = .ok (.iload 6, 2) := by decide +kernel
theorem d_B_setSum_29 : decode b_B_setSum 29 = .ok (.invokevirtual 58, 3) := by decide +kernel
theorem d_B_setSum_32 : decode b_B_setSum 32 = .ok (.i2l, 1) := by decide +kernel
theorem d_B_setSum_33 : decode b_B_setSum 33 = .ok (.ldc2_w 39, 3) := by decide +kernel
theorem d_B_setSum_36 : decode b_B_setSum 36 = .ok (.land, 1) := by decide +kernel
theorem d_B_setSum_37 : decode b_B_setSum 37 = .ok (.aload_n 2, 1) := by decide +kernel
theorem d_B_setSum_38 : decode b_B_setSum 38 = .ok (.iload 6, 2) := by decide +kernel
theorem d_B_setSum_40 : decode b_B_setSum 40 = .ok (.invokevirtual 58, 3) := by decide +kernel
theorem d_B_setSum_43 : decode b_B_setSum 43 = .ok (.i2l, 1) := by decide +kernel
theorem d_B_setSum_44 : decode b_B_setSum 44 = .ok (.ldc2_w 39, 3) := by decide +kernel
theorem d_B_setSum_47 : decode b_B_setSum 47 = .ok (.land, 1) := by decide +kernel
theorem d_B_setSum_48 : decode b_B_setSum 48 = .ok (.ladd, 1) := by decide +kernel
theorem d_B_setSum_49 : decode b_B_setSum 49 = .ok (.ladd, 1) := by decide +kernel
theorem d_B_setSum_50 : decode b_B_setSum 50 = .ok (.lstore 4, 2) := by decide +kernel
theorem d_B_setSum_52 : decode b_B_setSum 52 = .ok (.aload_n 0, 1) := by decide +kernel
theorem d_B_setSum_53 : decode b_B_setSum 53 = .ok (.getfield 9, 3) := by decide +kernel
theorem d_B_setSum_56 : decode b_B_setSum 56 = .ok (.iload 6, 2) := by decide +kernel
theorem d_B_setSum_58 : decode b_B_setSum 58 = .ok (.lload 4, 2) := by decide +kernel
theorem d_B_setSum_60 : decode b_B_setSum 60 = .ok (.l2i, 1) := by decide +kernel
theorem d_B_setSum_61 : decode b_B_setSum 61 = .ok (.iastore, 1) := by decide +kernel
theorem d_B_setSum_62 : decode b_B_setSum 62 = .ok (.lload 4, 2) := by decide +kernel
theorem d_B_setSum_64 : decode b_B_setSum 64 = .ok (.bipush 32, 2) := by decide +kernel
theorem d_B_setSum_66 : decode b_B_setSum 66 = .ok (.lushr, 1) := by decide +kernel
theorem d_B_setSum_67 : decode b_B_setSum 67 = .ok (.lstore 4, 2) := by decide +kernel
theorem d_B_setSum_69 : decode b_B_setSum 69 = .ok (.iinc 6 1, 3) := by decide +kernel
theorem d_B_setSum_72 : decode b_B_setSum 72 = .ok (.goto (-54), 3) := by decide +kernel
theorem d_B_setSum_75 : decode b_B_setSum 75 = .ok (.aload_n 0, 1) := by decide +kernel
theorem d_B_setSum_76 : decode b_B_setSum 76 = .ok (.iconst 0, 1) := by decide +kernel
theorem d_B_setSum_77 : decode b_B_setSum 77 = .ok (.putfield 15, 3) := by decide +kernel
theorem d_B_setSum_80 : decode b_B_setSum 80 = .ok (.aload_n 0, 1) := by decide +kernel
theorem d_B_setSum_81 : decode b_B_setSum 81 = .ok (.iload_n 3, 1) := by decide +kernel
theorem d_B_setSum_82 : decode b_B_setSum 82 = .ok (.lload 4, 2) := by decide +kernel
theorem d_B_setSum_84 : decode b_B_setSum 84 = .ok (.invokevirtual 19, 3) := by decide +kernel
theorem d_B_setSum_87 : decode b_B_setSum 87 = .ok (.return_, 1) := by decide +kernel
theorem d_B_setDifference_0 : decode b_B_setDifference 0 = .ok (.aload_n 1, 1) := by decide +kernel
theorem d_B_setDifference_1 : decode b_B_setDifference 1 = .ok (.aload_n 2, 1) := by decide +kernel
theorem d_B_setDifference_2 : decode b_B_setDifference 2 = .ok (.invokevirtual 61, 3) := by decide +kernel
theorem d_B_setDifference_5 : decode b_B_setDifference 5 = .ok (.istore_n 3, 1) := by decide +kernel
theorem d_B_setDifference_6 : decode b_B_setDifference 6 = .ok (.iload_n 3, 1) := by decide +kernel
theorem d_B_setDifference_7 : decode b_B_setDifference 7 = .ok (.ifCond .eq 7, 3) := by decide +kernel
theorem d_B_setDifference_10 : decode b_B_setDifference 10 = .ok (.aload_n 2, 1) := by decide +kernel
theorem d_B_setDifference_11 : decode b_B_setDifference 11 = .ok (.goto 4, 3) := by decide +kernel
theorem d_B_setDifference_14 : decode b_B_setDifference 14 = .ok (.aload_n 1, 1) := by decide +kernel
theorem d_B_setDifference_15 : decode b_B_setDifference 15 = .ok (.astore 4, 2) := by decide +kernel
theorem d_B_setDifference_17 : decode b_B_setDifference 17 = .ok (.iload_n 3, 1) := by decide +kernel
theorem d_B_setDifference_18 : decode b_B_setDifference 18 = .ok (.ifCond .eq 7, 3) := by decide +kernel
theorem d_B_setDifference_21 : decode b_B_setDifference 21 = .ok (.aload_n 1, 1) := by decide +kernel
theorem d_B_setDifference_22 : decode b_B_setDifference 22 = .ok (.goto 4, 3) := by decide +kernel
theorem d_B_setDifference_25 : decode b_B_setDifference 25 = .ok (.aload_n 2, 1) := by decide +kernel
theorem d_B_setDifference_26 : decode b_B_setDifference 26 = .ok (.astore 5, 2) := by decide +kernel
theorem d_B_setDifference_28 : decode b_B_setDifference 28 = .ok (.lconst 0, 1) := by decide +kernel
theorem d_B_setDifference_29 : decode b_B_setDifference 29 = .ok (.lstore 6, 2) := by decide +kernel
theorem d_B_setDifference_31 : decode b_B_setDifference 31 = .ok (.iconst 0, 1) := by decide +kernel
theorem d_B_setDifference_32 : decode b_B_setDifference 32 = .ok (.istore 8, 2) := by decide +kernel
theorem d_B_setDifference_34 : decode b_B_setDifference 34 = .ok (.iload 8, 2) := by decide +kernel
theorem d_B_setDifference_36 : decode b_B_setDifference 36 = .ok (.aload 4, 2) := by decide +kernel
theorem d_B_setDifference_38 : decode b_B_setDifference 38 = .ok (.getfield 23, 3) := by decide +kernel
theorem d_B_setDifference_41 : decode b_B_setDifference 41 = .ok (.if_icmp .ge 57, 3) := by decide +kernel
theorem d_B_setDifference_44 : decode b_B_setDifference 44 = .ok (.lload 6, 2) := by decide +kernel
theorem d_B_setDifference_46 : decode b_B_setDifference 46 = .ok (.aload 4, 2) := by decide +kernel
theorem d_B_setDifference_48 : decode b_B_setDifference 48 = .ok (.getfield 9, 3) := by decide +kernel
theorem d_B_setDifference_51 : decode b_B_setDifference 51 = .ok (.iload 8, 2) := by decide +kernel
theorem d_B_setDifference_53 : decode b_B_setDifference 53 = .ok (.iaload, 1) := by decide +kernel
theorem d_B_setDifference_54 : decode b_B_setDifference 54 = .ok (.i2l, 1) := by decide +kernel
theorem d_B_setDifference_55 : decode b_B_setDifference 55 = .ok (.ldc2_w 39, 3) := by decide +kernel
theorem d_B_setDifference_58 : decode b_B_setDifference 58 = .ok (.land, 1) := by decide +kernel
theorem d_B_setDifference_59 : decode b_B_setDifference 59 = .ok (.aload 5, 2) := by decide +kernel
theorem d_B_setDifference_61 : decode b_B_setDifference 61 = .ok (.iload 8, 2) := by decide +kernel
theorem d_B_setDifference_63 : decode b_B_setDifference 63 = .ok (.invokevirtual 58, 3) := by decide +kernel
theorem d_B_setDifference_66 : decode b_B_setDifference 66 = .ok (.i2l, 1) := by decide +kernel
theorem d_B_setDifference_67 : decode b_B_setDifference 67 = .ok (.ldc2_w 39, 3) := by decide +kernel
theorem d_B_setDifference_70 : decode b_B_setDifference 70 = .ok (.land, 1) := by decide +kernel
theorem d_B_setDifference_71 : decode b_B_setDifference 71 = .ok (.lsub, 1) := by decide +kernel
theorem d_B_setDifference_72 : decode b_B_setDifference 72 = .ok (.ladd, 1) := by decide +kernel
theorem d_B_setDifference_73 : decode b_B_setDifference 73 = .ok (.lstore 6, 2) := by decide +kernel
theorem d_B_setDifference_75 : decode b_B_setDifference 75 = .ok (.aload_n 0, 1) := by decide +kernel
theorem d_B_setDifference_76 : decode b_B_setDifference 76 = .ok (.getfield 9, 3) := by decide +kernel
theorem d_B_setDifference_79 : decode b_B_setDifference 79 = .ok (.iload 8, 2) := by decide +kernel
theorem d_B_setDifference_81 : decode b_B_setDifference 81 = .ok (.lload 6, 2) := by decide +kernel
theorem d_B_setDifference_83 : decode b_B_setDifference 83 = .ok (.l2i, 1) := by decide +kernel
theorem d_B_setDifference_84 : decode b_B_setDifference 84 = .ok (.iastore, 1) := by decide +kernel
theorem d_B_setDifference_85 : decode b_B_setDifference 85 = .ok (.lload 6, 2) := by decide +kernel
theorem d_B_setDifference_87 : decode b_B_setDifference 87 = .ok (.bipush 32, 2) := by decide +kernel
theorem d_B_setDifference_89 : decode b_B_setDifference 89 = .ok (.lshr, 1) := by decide +kernel
theorem d_B_setDifference_90 : decode b_B_setDifference 90 = .ok (.lstore 6, 2) := by decide +kernel
theorem d_B_setDifference_92 : decode b_B_setDifference 92 = .ok (.iinc 8 1, 3) := by decide +kernel
theorem d_B_setDifference_95 : decode b_B_setDifference 95 = .ok (.goto (-61), 3) := by decide +kernel
theorem d_B_setDifference_98 : decode b_B_setDifference 98 = .ok (.aload_n 0, 1) := by decide +kernel
theorem d_B_setDifference_99 : decode b_B_setDifference 99 = .ok (.iload_n 3, 1) := by decide +kernel
theorem d_B_setDifference_100 : decode b_B_setDifference 100 = .ok (.putfield 15, 3) := by decide +kernel
theorem d_B_setDifference_103 : decode b_B_setDifference 103 = .ok (.aload_n 0, 1) := by decide +kernel
theorem d_B_setDifference_104 : decode b_B_setDifference 104 = .ok (.aload 4, 2) := by decide +kernel
theorem d_B_setDifference_106 : decode b_B_setDifference 106 = .ok (.getfield 23, 3) := by decide +kernel
theorem d_B_setDifference_109 : decode b_B_setDifference 109 = .ok (.lconst 0, 1) := by decide +kernel
theorem d_B_setDifference_110 : decode b_B_setDifference 110 = .ok (.invokevirtual 19, 3) := by decide +kernel
theorem d_B_setDifference_113 : decode b_B_setDifference 113 = .ok (.return_, 1) := by decide +kernel
theorem d_B_isLess_0 : decode b_B_isLess 0 = .ok (.aload_n 0, 1) := by decide +kernel
theorem d_B_isLess_1 : decode b_B_isLess 1 = .ok (.getfield 23, 3) := by decide +kernel
theorem d_B_isLess_4 : decode b_B_isLess 4 = .ok (.aload_n 1, 1) := by decide +kernel
theorem d_B_isLess_5 : decode b_B_isLess 5 = .ok (.getfield 23, 3) := by decide +kernel
theorem d_B_isLess_8 : decode b_B_isLess 8 = .ok (.if_icmp .eq 20, 3) := by decide +kernel
theorem d_B_isLess_11 : decode b_B_isLess 11 = .ok (.aload_n 0, 1) := by decide +kernel
theorem d_B_isLess_12 : decode b_B_isLess 12 = .ok (.getfield 23, 3) := by decide +kernel
theorem d_B_isLess_15 : decode b_B_isLess 15 = .ok (.aload_n 1, 1) := by decide +kernel
theorem d_B_isLess_16 : decode b_B_isLess 16 = .ok (.getfield 23, 3) := by decide +kernel
theorem d_B_isLess_19 : decode b_B_isLess 19 = .ok (.if_icmp .ge 7, 3) := by decide +kernel
theorem d_B_isLess_22 : decode b_B_isLess 22 = .ok (.iconst 1, 1) := by decide +kernel
theorem d_B_isLess_23 : decode b_B_isLess 23 = .ok (.goto 4, 3) := by decide +kernel
theorem d_B_isLess_26 : decode b_B_isLess 26 = .ok (.iconst 0, 1) := by decide +kernel
theorem d_B_isLess_27 : decode b_B_isLess 27 = .ok (.ireturn, 1) := by decide +kernel
theorem d_B_isLess_28 : decode b_B_isLess 28 = .ok (.aload_n 0, 1) := by decide +kernel
theorem d_B_isLess_29 : decode b_B_isLess 29 = .ok (.getfield 23, 3) := by decide +kernel
theorem d_B_isLess_32 : decode b_B_isLess 32 = .ok (.iconst 1, 1) := by decide +kernel
theorem d_B_isLess_33 : decode b_B_isLess 33 = .ok (.isub, 1) := by decide +kernel
theorem d_B_isLess_34 : decode b_B_isLess 34 = .ok (.istore_n 2, 1) := by decide +kernel
theorem d_B_isLess_35 : decode b_B_isLess 35 = .ok (.iload_n 2, 1) := by decide +kernel
theorem d_B_isLess_36 : decode b_B_isLess 36 = .ok (.ifCond .lt 56, 3) := by decide +kernel
theorem d_B_isLess_39 : decode b_B_isLess 39 = .ok (.aload_n 0, 1) := by decide +kernel
theorem d_B_isLess_40 : decode b_B_isLess 40 = .ok (.getfield 9, 3) := by decide +kernel
theorem d_B_isLess_43 : decode b_B_isLess 43 = .ok (.iload_n 2, 1) := by decide +kernel
theorem d_B_isLess_44 : decode b_B_isLess 44 = .ok (.iaload, 1) := by decide +kernel
theorem d_B_isLess_45 : decode b_B_isLess 45 = .ok (.aload_n 1, 1) := by decide +kernel
theorem d_B_isLess_46 : decode b_B_isLess 46 = .ok (.getfield 9, 3) := by decide +kernel
theorem d_B_isLess_49 : decode b_B_isLess 49 = .ok (.iload_n 2, 1) := by decide +kernel
theorem d_B_isLess_50 : decode b_B_isLess 50 = .ok (.iaload, 1) := by decide +kernel
theorem d_B_isLess_51 : decode b_B_isLess 51 = .ok (.if_icmp .eq 35, 3) := by decide +kernel
theorem d_B_isLess_54 : decode b_B_isLess 54 = .ok (.aload_n 0, 1) := by decide +kernel
theorem d_B_isLess_55 : decode b_B_isLess 55 = .ok (.getfield 9, 3) := by decide +kernel
theorem d_B_isLess_58 : decode b_B_isLess 58 = .ok (.iload_n 2, 1) := by decide +kernel
theorem d_B_isLess_59 : decode b_B_isLess 59 = .ok (.iaload, 1) := by decide +kernel
theorem d_B_isLess_60 : decode b_B_isLess 60 = .ok (.i2l, 1) := by decide +kernel
theorem d_B_isLess_61 : decode b_B_isLess 61 = .ok (.ldc2_w 39, 3) := by decide +kernel
theorem d_B_isLess_64 : decode b_B_isLess 64 = .ok (.land, 1) := by decide +kernel
theorem d_B_isLess_65 : decode b_B_isLess 65 = .ok (.aload_n 1, 1) := by decide +kernel
theorem d_B_isLess_66 : decode b_B_isLess 66 = .ok (.getfield 9, 3) := by decide +kernel
theorem d_B_isLess_69 : decode b_B_isLess 69 = .ok (.iload_n 2, 1) := by decide +kernel
theorem d_B_isLess_70 : decode b_B_isLess 70 = .ok (.iaload, 1) := by decide +kernel
theorem d_B_isLess_71 : decode b_B_isLess 71 = .ok (.i2l, 1) := by decide +kernel
theorem d_B_isLess_72 : decode b_B_isLess 72 = .ok (.ldc2_w 39, 3) := by decide +kernel
theorem d_B_isLess_75 : decode b_B_isLess 75 = .ok (.land, 1) := by decide +kernel
theorem d_B_isLess_76 : decode b_B_isLess 76 = .ok (.lcmp, 1) := by decide +kernel
theorem d_B_isLess_77 : decode b_B_isLess 77 = .ok (.ifCond .ge 7, 3) := by decide +kernel
theorem d_B_isLess_80 : decode b_B_isLess 80 = .ok (.iconst 1, 1) := by decide +kernel
theorem d_B_isLess_81 : decode b_B_isLess 81 = .ok (.goto 4, 3) := by decide +kernel
theorem d_B_isLess_84 : decode b_B_isLess 84 = .ok (.iconst 0, 1) := by decide +kernel
theorem d_B_isLess_85 : decode b_B_isLess 85 = .ok (.ireturn, 1) := by decide +kernel
theorem d_B_isLess_86 : decode b_B_isLess 86 = .ok (.iinc 2 (-1), 3) := by decide +kernel
theorem d_B_isLess_89 : decode b_B_isLess 89 = .ok (.goto (-54), 3) := by decide +kernel
theorem d_B_isLess_92 : decode b_B_isLess 92 = .ok (.iconst 0, 1) := by decide +kernel
theorem d_B_isLess_93 : decode b_B_isLess 93 = .ok (.ireturn, 1) := by decide +kernel
theorem d_B_halve_0 : decode b_B_halve 0 = .ok (.iconst 0, 1) := by decide +kernel
theorem d_B_halve_1 : decode b_B_halve 1 = .ok (.istore_n 1, 1) := by decide +kernel
theorem d_B_halve_2 : decode b_B_halve 2 = .ok (.iload_n 1, 1) := by decide +kernel
theorem d_B_halve_3 : decode b_B_halve 3 = .ok (.aload_n 0, 1) := by decide +kernel
theorem d_B_halve_4 : decode b_B_halve 4 = .ok (.getfield 23, 3) := by decide +kernel
theorem d_B_halve_7 : decode b_B_halve 7 = .ok (.if_icmp .ge 34, 3) := by decide +kernel
theorem d_B_halve_10 : decode b_B_halve 10 = .ok (.aload_n 0, 1) := by decide +kernel
theorem d_B_halve_11 : decode b_B_halve 11 = .ok (.getfield 9, 3) := by decide +kernel
theorem d_B_halve_14 : decode b_B_halve 14 = .ok (.iload_n 1, 1) := by decide +kernel
theorem d_B_halve_15 : decode b_B_halve 15 = .ok (.aload_n 0, 1) := by decide +kernel
theorem d_B_halve_16 : decode b_B_halve 16 = .ok (.getfield 9, 3) := by decide +kernel
theorem d_B_halve_19 : decode b_B_halve 19 = .ok (.iload_n 1, 1) := by decide +kernel
theorem d_B_halve_20 : decode b_B_halve 20 = .ok (.iaload, 1) := by decide +kernel
theorem d_B_halve_21 : decode b_B_halve 21 = .ok (.iconst 1, 1) := by decide +kernel
theorem d_B_halve_22 : decode b_B_halve 22 = .ok (.iushr, 1) := by decide +kernel
theorem d_B_halve_23 : decode b_B_halve 23 = .ok (.aload_n 0, 1) := by decide +kernel
theorem d_B_halve_24 : decode b_B_halve 24 = .ok (.iload_n 1, 1) := by decide +kernel
theorem d_B_halve_25 : decode b_B_halve 25 = .ok (.iconst 1, 1) := by decide +kernel
theorem d_B_halve_26 : decode b_B_halve 26 = .ok (.iadd, 1) := by decide +kernel
theorem d_B_halve_27 : decode b_B_halve 27 = .ok (.invokevirtual 58, 3) := by decide +kernel
theorem d_B_halve_30 : decode b_B_halve 30 = .ok (.bipush 31, 2) := by decide +kernel
theorem d_B_halve_32 : decode b_B_halve 32 = .ok (.ishl, 1) := by decide +kernel
theorem d_B_halve_33 : decode b_B_halve 33 = .ok (.ior, 1) := by decide +kernel
theorem d_B_halve_34 : decode b_B_halve 34 = .ok (.iastore, 1) := by decide +kernel
theorem d_B_halve_35 : decode b_B_halve 35 = .ok (.iinc 1 1, 3) := by decide +kernel
theorem d_B_halve_38 : decode b_B_halve 38 = .ok (.goto (-36), 3) := by decide +kernel
theorem d_B_halve_41 : decode b_B_halve 41 = .ok (.aload_n 0, 1) := by decide +kernel
theorem d_B_halve_42 : decode b_B_halve 42 = .ok (.aload_n 0, 1) := by decide +kernel
theorem d_B_halve_43 : decode b_B_halve 43 = .ok (.getfield 23, 3) := by decide +kernel
theorem d_B_halve_46 : decode b_B_halve 46 = .ok (.lconst 0, 1) := by decide +kernel
theorem d_B_halve_47 : decode b_B_halve 47 = .ok (.invokevirtual 19, 3) := by decide +kernel
theorem d_B_halve_50 : decode b_B_halve 50 = .ok (.return_, 1) := by decide +kernel
end
section
theorem d_K_init_0 : decode b_K_init 0 = .ok (.aload_n 0, 1) := by decide +kernel
theorem d_K_init_1 : decode b_K_init 1 = .ok (.invokespecial 3, 3) := by decide +kernel
theorem d_K_init_4 : decode b_K_init 4 = .ok (.aload_n 0, 1) := by decide +kernel
theorem d_K_init_5 : decode b_K_init 5 = .ok (.new 9, 3) := by decide +kernel
theorem d_K_init_8 : decode b_K_init 8 = .ok (.dup, 1) := by decide +kernel
theorem d_K_init_9 : decode b_K_init 9 = .ok (.invokespecial 11, 3) := by decide +kernel
theorem d_K_init_12 : decode b_K_init 12 = .ok (.putfield 12, 3) := by decide +kernel
theorem d_K_init_15 : decode b_K_init 15 = .ok (.aload_n 0, 1) := by decide +kernel
theorem d_K_init_16 : decode b_K_init 16 = .ok (.new 9, 3) := by decide +kernel
theorem d_K_init_19 : decode b_K_init 19 = .ok (.dup, 1) := by decide +kernel
theorem d_K_init_20 : decode b_K_init 20 = .ok (.invokespecial 11, 3) := by decide +kernel
theorem d_K_init_23 : decode b_K_init 23 = .ok (.putfield 18, 3) := by decide +kernel
theorem d_K_init_26 : decode b_K_init 26 = .ok (.return_, 1) := by decide +kernel
theorem d_K_start_0 : decode b_K_start 0 = .ok (.aload_n 0, 1) := by decide +kernel
theorem d_K_start_1 : decode b_K_start 1 = .ok (.getfield 12, 3) := by decide +kernel
theorem d_K_start_4 : decode b_K_start 4 = .ok (.iconst 1, 1) := by decide +kernel
theorem d_K_start_5 : decode b_K_start 5 = .ok (.invokevirtual 21, 3) := by decide +kernel
theorem d_K_start_8 : decode b_K_start 8 = .ok (.aload_n 0, 1) := by decide +kernel
theorem d_K_start_9 : decode b_K_start 9 = .ok (.getfield 18, 3) := by decide +kernel
theorem d_K_start_12 : decode b_K_start 12 = .ok (.iconst 0, 1) := by decide +kernel
theorem d_K_start_13 : decode b_K_start 13 = .ok (.invokevirtual 21, 3) := by decide +kernel
theorem d_K_start_16 : decode b_K_start 16 = .ok (.aload_n 0, 1) := by decide +kernel
theorem d_K_start_17 : decode b_K_start 17 = .ok (.invokevirtual 25, 3) := by decide +kernel
theorem d_K_start_20 : decode b_K_start 20 = .ok (.return_, 1) := by decide +kernel
theorem d_K_step_0 : decode b_K_step 0 = .ok (.iload_n 1, 1) := by decide +kernel
theorem d_K_step_1 : decode b_K_step 1 = .ok (.i2l, 1) := by decide +kernel
theorem d_K_step_2 : decode b_K_step 2 = .ok (.aload_n 0, 1) := by decide +kernel
theorem d_K_step_3 : decode b_K_step 3 = .ok (.getfield 28, 3) := by decide +kernel
theorem d_K_step_6 : decode b_K_step 6 = .ok (.lmul, 1) := by decide +kernel
theorem d_K_step_7 : decode b_K_step 7 = .ok (.aload_n 0, 1) := by decide +kernel
theorem d_K_step_8 : decode b_K_step 8 = .ok (.getfield 32, 3) := by decide +kernel
theorem d_K_step_11 : decode b_K_step 11 = .ok (.ladd, 1) := by decide +kernel
theorem d_K_step_12 : decode b_K_step 12 = .ok (.ldc2_w 35, 3) := by decide +kernel
theorem d_K_step_15 : decode b_K_step 15 = .ok (.lcmp, 1) := by decide +kernel
theorem d_K_step_16 : decode b_K_step 16 = .ok (.ifCond .ge 22, 3) := by decide +kernel
theorem d_K_step_19 : decode b_K_step 19 = .ok (.iload_n 1, 1) := by decide +kernel
theorem d_K_step_20 : decode b_K_step 20 = .ok (.i2l, 1) := by decide +kernel
theorem d_K_step_21 : decode b_K_step 21 = .ok (.aload_n 0, 1) := by decide +kernel
theorem d_K_step_22 : decode b_K_step 22 = .ok (.getfield 37, 3) := by decide +kernel
theorem d_K_step_25 : decode b_K_step 25 = .ok (.lmul, 1) := by decide +kernel
theorem d_K_step_26 : decode b_K_step 26 = .ok (.aload_n 0, 1) := by decide +kernel
theorem d_K_step_27 : decode b_K_step 27 = .ok (.getfield 40, 3) := by decide +kernel
theorem d_K_step_30 : decode b_K_step 30 = .ok (.ladd, 1) := by decide +kernel
theorem d_K_step_31 : decode b_K_step 31 = .ok (.ldc2_w 35, 3) := by decide +kernel
theorem d_K_step_34 : decode b_K_step 34 = .ok (.lcmp, 1) := by decide +kernel
theorem d_K_step_35 : decode b_K_step 35 = .ok (.ifCond .lt 7, 3) := by decide +kernel
theorem d_K_step_38 : decode b_K_step 38 = .ok (.aload_n 0, 1) := by decide +kernel
theorem d_K_step_39 : decode b_K_step 39 = .ok (.invokevirtual 43, 3) := by decide +kernel
theorem d_K_step_42 : decode b_K_step 42 = .ok (.iload_n 1, 1) := by decide +kernel
theorem d_K_step_43 : decode b_K_step 43 = .ok (.i2l, 1) := by decide +kernel
theorem d_K_step_44 : decode b_K_step 44 = .ok (.aload_n 0, 1) := by decide +kernel
theorem d_K_step_45 : decode b_K_step 45 = .ok (.getfield 28, 3) := by decide +kernel
theorem d_K_step_48 : decode b_K_step 48 = .ok (.lmul, 1) := by decide +kernel
theorem d_K_step_49 : decode b_K_step 49 = .ok (.aload_n 0, 1) := by decide +kernel
theorem d_K_step_50 : decode b_K_step 50 = .ok (.getfield 32, 3) := by decide +kernel
theorem d_K_step_53 : decode b_K_step 53 = .ok (.ladd, 1) := by decide +kernel
theorem d_K_step_54 : decode b_K_step 54 = .ok (.lstore_n 2, 1) := by decide +kernel
theorem d_K_step_55 : decode b_K_step 55 = .ok (.iload_n 1, 1) := by decide +kernel
theorem d_K_step_56 : decode b_K_step 56 = .ok (.i2l, 1) := by decide +kernel
theorem d_K_step_57 : decode b_K_step 57 = .ok (.aload_n 0, 1) := by decide +kernel
theorem d_K_step_58 : decode b_K_step 58 = .ok (.getfield 37, 3) := by decide +kernel
theorem d_K_step_61 : decode b_K_step 61 = .ok (.lmul, 1) := by decide +kernel
theorem d_K_step_62 : decode b_K_step 62 = .ok (.aload_n 0, 1) := by decide +kernel
theorem d_K_step_63 : decode b_K_step 63 = .ok (.getfield 40, 3) := by decide +kernel
theorem d_K_step_66 : decode b_K_step 66 = .ok (.ladd, 1) := by decide +kernel
theorem d_K_step_67 : decode b_K_step 67 = .ok (.lstore 4, 2) := by decide +kernel
theorem d_K_step_69 : decode b_K_step 69 = .ok (.aload_n 0, 1) := by decide +kernel
theorem d_K_step_70 : decode b_K_step 70 = .ok (.aload_n 0, 1) := by decide +kernel
theorem d_K_step_71 : decode b_K_step 71 = .ok (.getfield 28, 3) := by decide +kernel
theorem d_K_step_74 : decode b_K_step 74 = .ok (.putfield 32, 3) := by decide +kernel
theorem d_K_step_77 : decode b_K_step 77 = .ok (.aload_n 0, 1) := by decide +kernel
theorem d_K_step_78 : decode b_K_step 78 = .ok (.aload_n 0, 1) := by decide +kernel
theorem d_K_step_79 : decode b_K_step 79 = .ok (.getfield 37, 3) := by decide +kernel
theorem d_K_step_82 : decode b_K_step 82 = .ok (.putfield 40, 3) := by decide +kernel
theorem d_K_step_85 : decode b_K_step 85 = .ok (.aload_n 0, 1) := by decide +kernel
theorem d_K_step_86 : decode b_K_step 86 = .ok (.lload_n 2, 1) := by decide +kernel
theorem d_K_step_87 : decode b_K_step 87 = .ok (.putfield 28, 3) := by decide +kernel
theorem d_K_step_90 : decode b_K_step 90 = .ok (.aload_n 0, 1) := by decide +kernel
theorem d_K_step_91 : decode b_K_step 91 = .ok (.lload 4, 2) := by decide +kernel
theorem d_K_step_93 : decode b_K_step 93 = .ok (.putfield 37, 3) := by decide +kernel
theorem d_K_step_96 : decode b_K_step 96 = .ok (.return_, 1) := by decide +kernel
theorem d_K_finish_0 : decode b_K_finish 0 = .ok (.aload_n 0, 1) := by decide +kernel
theorem d_K_finish_1 : decode b_K_finish 1 = .ok (.invokevirtual 43, 3) := by decide +kernel
theorem d_K_finish_4 : decode b_K_finish 4 = .ok (.aload_n 0, 1) := by decide +kernel
theorem d_K_finish_5 : decode b_K_finish 5 = .ok (.iload_n 1, 1) := by decide +kernel
theorem d_K_finish_6 : decode b_K_finish 6 = .ok (.i2l, 1) := by decide +kernel
theorem d_K_finish_7 : decode b_K_finish 7 = .ok (.putfield 32, 3) := by decide +kernel
theorem d_K_finish_10 : decode b_K_finish 10 = .ok (.aload_n 0, 1) := by decide +kernel
theorem d_K_finish_11 : decode b_K_finish 11 = .ok (.ldc2_w 46, 3) := by decide +kernel
theorem d_K_finish_14 : decode b_K_finish 14 = .ok (.putfield 40, 3) := by decide +kernel
theorem d_K_finish_17 : decode b_K_finish 17 = .ok (.aload_n 0, 1) := by decide +kernel
theorem d_K_finish_18 : decode b_K_finish 18 = .ok (.invokevirtual 43, 3) := by decide +kernel
theorem d_K_finish_21 : decode b_K_finish 21 = .ok (.return_, 1) := by decide +kernel
theorem d_K_gatherNothing_0 : decode b_K_gatherNothing 0 = .ok (.aload_n 0, 1) := by decide +kernel
theorem d_K_gatherNothing_1 : decode b_K_gatherNothing 1 = .ok (.lconst 1, 1) := by decide +kernel
theorem d_K_gatherNothing_2 : decode b_K_gatherNothing 2 = .ok (.putfield 28, 3) := by decide +kernel
theorem d_K_gatherNothing_5 : decode b_K_gatherNothing 5 = .ok (.aload_n 0, 1) := by decide +kernel
theorem d_K_gatherNothing_6 : decode b_K_gatherNothing 6 = .ok (.lconst 0, 1) := by decide +kernel
theorem d_K_gatherNothing_7 : decode b_K_gatherNothing 7 = .ok (.putfield 37, 3) := by decide +kernel
theorem d_K_gatherNothing_10 : decode b_K_gatherNothing 10 = .ok (.aload_n 0, 1) := by decide +kernel
theorem d_K_gatherNothing_11 : decode b_K_gatherNothing 11 = .ok (.lconst 0, 1) := by decide +kernel
theorem d_K_gatherNothing_12 : decode b_K_gatherNothing 12 = .ok (.putfield 32, 3) := by decide +kernel
theorem d_K_gatherNothing_15 : decode b_K_gatherNothing 15 = .ok (.aload_n 0, 1) := by decide +kernel
theorem d_K_gatherNothing_16 : decode b_K_gatherNothing 16 = .ok (.lconst 1, 1) := by decide +kernel
theorem d_K_gatherNothing_17 : decode b_K_gatherNothing 17 = .ok (.putfield 40, 3) := by decide +kernel
theorem d_K_gatherNothing_20 : decode b_K_gatherNothing 20 = .ok (.return_, 1) := by decide +kernel
theorem d_K_settle_0 : decode b_K_settle 0 = .ok (.aload_n 0, 1) := by decide +kernel
theorem d_K_settle_1 : decode b_K_settle 1 = .ok (.getfield 12, 3) := by decide +kernel
theorem d_K_settle_4 : decode b_K_settle 4 = .ok (.getfield 48, 3) := by decide +kernel
theorem d_K_settle_7 : decode b_K_settle 7 = .ok (.aload_n 0, 1) := by decide +kernel
theorem d_K_settle_8 : decode b_K_settle 8 = .ok (.getfield 18, 3) := by decide +kernel
theorem d_K_settle_11 : decode b_K_settle 11 = .ok (.getfield 48, 3) := by decide +kernel
theorem d_K_settle_14 : decode b_K_settle 14 = .ok (.invokestatic 52, 3) := by decide +kernel
theorem d_K_settle_17 : decode b_K_settle 17 = .ok (.istore_n 1, 1) := by decide +kernel
theorem d_K_settle_18 : decode b_K_settle 18 = .ok (.lconst 0, 1) := by decide +kernel
theorem d_K_settle_19 : decode b_K_settle 19 = .ok (.lstore_n 2, 1) := by decide +kernel
theorem d_K_settle_20 : decode b_K_settle 20 = .ok (.lconst 0, 1) := by decide +kernel
theorem d_K_settle_21 : decode b_K_settle 21 = .ok (.lstore 4, 2) := by decide +kernel
theorem d_K_settle_23 : decode b_K_settle 23 = .ok (.iconst 0, 1) := by decide +kernel
theorem d_K_settle_24 : decode b_K_settle 24 = .ok (.istore 6, 2) := by decide +kernel
theorem d_K_settle_26 : decode b_K_settle 26 = .ok (.iload 6, 2) := by decide +kernel
theorem d_K_settle_28 : decode b_K_settle 28 = .ok (.iload_n 1, 1) := by decide +kernel
theorem d_K_settle_29 : decode b_K_settle 29 = .ok (.if_icmp .ge 116, 3) := by decide +kernel
theorem d_K_settle_32 : decode b_K_settle 32 = .ok (.aload_n 0, 1) := by decide +kernel
theorem d_K_settle_33 : decode b_K_settle 33 = .ok (.getfield 12, 3) := by decide +kernel
theorem d_K_settle_36 : decode b_K_settle 36 = .ok (.iload 6, 2) := by decide +kernel
theorem d_K_settle_38 : decode b_K_settle 38 = .ok (.invokevirtual 58, 3) := by decide +kernel
theorem d_K_settle_41 : decode b_K_settle 41 = .ok (.i2l, 1) := by decide +kernel
theorem d_K_settle_42 : decode b_K_settle 42 = .ok (.ldc2_w 62, 3) := by decide +kernel
theorem d_K_settle_45 : decode b_K_settle 45 = .ok (.land, 1) := by decide +kernel
theorem d_K_settle_46 : decode b_K_settle 46 = .ok (.lstore 7, 2) := by decide +kernel
theorem d_K_settle_48 : decode b_K_settle 48 = .ok (.aload_n 0, 1) := by decide +kernel
theorem d_K_settle_49 : decode b_K_settle 49 = .ok (.getfield 18, 3) := by decide +kernel
theorem d_K_settle_52 : decode b_K_settle 52 = .ok (.iload 6, 2) := by decide +kernel
theorem d_K_settle_54 : decode b_K_settle 54 = .ok (.invokevirtual 58, 3) := by decide +kernel
theorem d_K_settle_57 : decode b_K_settle 57 = .ok (.i2l, 1) := by decide +kernel
theorem d_K_settle_58 : decode b_K_settle 58 = .ok (.ldc2_w 62, 3) := by decide +kernel
theorem d_K_settle_61 : decode b_K_settle 61 = .ok (.land, 1) := by decide +kernel
theorem d_K_settle_62 : decode b_K_settle 62 = .ok (.lstore 9, 2) := by decide +kernel
theorem d_K_settle_64 : decode b_K_settle 64 = .ok (.lload_n 2, 1) := by decide +kernel
theorem d_K_settle_65 : decode b_K_settle 65 = .ok (.aload_n 0, 1) := by decide +kernel
theorem d_K_settle_66 : decode b_K_settle 66 = .ok (.getfield 28, 3) := by decide +kernel
theorem d_K_settle_69 : decode b_K_settle 69 = .ok (.lload 7, 2) := by decide +kernel
theorem d_K_settle_71 : decode b_K_settle 71 = .ok (.lmul, 1) := by decide +kernel
theorem d_K_settle_72 : decode b_K_settle 72 = .ok (.aload_n 0, 1) := by decide +kernel
theorem d_K_settle_73 : decode b_K_settle 73 = .ok (.getfield 37, 3) := by decide +kernel
theorem d_K_settle_76 : decode b_K_settle 76 = .ok (.lload 9, 2) := by decide +kernel
theorem d_K_settle_78 : decode b_K_settle 78 = .ok (.lmul, 1) := by decide +kernel
theorem d_K_settle_79 : decode b_K_settle 79 = .ok (.ladd, 1) := by decide +kernel
theorem d_K_settle_80 : decode b_K_settle 80 = .ok (.ladd, 1) := by decide +kernel
theorem d_K_settle_81 : decode b_K_settle 81 = .ok (.lstore_n 2, 1) := by decide +kernel
theorem d_K_settle_82 : decode b_K_settle 82 = .ok (.lload 4, 2) := by decide +kernel
theorem d_K_settle_84 : decode b_K_settle 84 = .ok (.aload_n 0, 1) := by decide +kernel
theorem d_K_settle_85 : decode b_K_settle 85 = .ok (.getfield 32, 3) := by decide +kernel
theorem d_K_settle_88 : decode b_K_settle 88 = .ok (.lload 7, 2) := by decide +kernel
theorem d_K_settle_90 : decode b_K_settle 90 = .ok (.lmul, 1) := by decide +kernel
theorem d_K_settle_91 : decode b_K_settle 91 = .ok (.aload_n 0, 1) := by decide +kernel
theorem d_K_settle_92 : decode b_K_settle 92 = .ok (.getfield 40, 3) := by decide +kernel
theorem d_K_settle_95 : decode b_K_settle 95 = .ok (.lload 9, 2) := by decide +kernel
theorem d_K_settle_97 : decode b_K_settle 97 = .ok (.lmul, 1) := by decide +kernel
theorem d_K_settle_98 : decode b_K_settle 98 = .ok (.ladd, 1) := by decide +kernel
theorem d_K_settle_99 : decode b_K_settle 99 = .ok (.ladd, 1) := by decide +kernel
theorem d_K_settle_100 : decode b_K_settle 100 = .ok (.lstore 4, 2) := by decide +kernel
theorem d_K_settle_102 : decode b_K_settle 102 = .ok (.aload_n 0, 1) := by decide +kernel
theorem d_K_settle_103 : decode b_K_settle 103 = .ok (.getfield 12, 3) := by decide +kernel
theorem d_K_settle_106 : decode b_K_settle 106 = .ok (.getfield 64, 3) := by decide +kernel
theorem d_K_settle_109 : decode b_K_settle 109 = .ok (.iload 6, 2) := by decide +kernel
theorem d_K_settle_111 : decode b_K_settle 111 = .ok (.lload_n 2, 1) := by decide +kernel
theorem d_K_settle_112 : decode b_K_settle 112 = .ok (.l2i, 1) := by decide +kernel
theorem d_K_settle_113 : decode b_K_settle 113 = .ok (.iastore, 1) := by decide +kernel
theorem d_K_settle_114 : decode b_K_settle 114 = .ok (.aload_n 0, 1) := by decide +kernel
theorem d_K_settle_115 : decode b_K_settle 115 = .ok (.getfield 18, 3) := by decide +kernel
theorem d_K_settle_118 : decode b_K_settle 118 = .ok (.getfield 64, 3) := by decide +kernel
theorem d_K_settle_121 : decode b_K_settle 121 = .ok (.iload 6, 2) := by decide +kernel
theorem d_K_settle_123 : decode b_K_settle 123 = .ok (.lload 4, 2) := by decide +kernel
theorem d_K_settle_125 : decode b_K_settle 125 = .ok (.l2i, 1) := by decide +kernel
theorem d_K_settle_126 : decode b_K_settle 126 = .ok (.iastore, 1) := by decide +kernel
theorem d_K_settle_127 : decode b_K_settle 127 = .ok (.lload_n 2, 1) := by decide +kernel
theorem d_K_settle_128 : decode b_K_settle 128 = .ok (.bipush 32, 2) := by decide +kernel
theorem d_K_settle_130 : decode b_K_settle 130 = .ok (.lushr, 1) := by decide +kernel
theorem d_K_settle_131 : decode b_K_settle 131 = .ok (.lstore_n 2, 1) := by decide +kernel
theorem d_K_settle_132 : decode b_K_settle 132 = .ok (.lload 4, 2) := by decide +kernel
theorem d_K_settle_134 : decode b_K_settle 134 = .ok (.bipush 32, 2) := by decide +kernel
theorem d_K_settle_136 : decode b_K_settle 136 = .ok (.lushr, 1) := by decide +kernel
theorem d_K_settle_137 : decode b_K_settle 137 = .ok (.lstore 4, 2) := by decide +kernel
theorem d_K_settle_139 : decode b_K_settle 139 = .ok (.iinc 6 1, 3) := by decide +kernel
theorem d_K_settle_142 : decode b_K_settle 142 = .ok (.goto (-116), 3) := by decide +kernel
theorem d_K_settle_145 : decode b_K_settle 145 = .ok (.aload_n 0, 1) := by decide +kernel
theorem d_K_settle_146 : decode b_K_settle 146 = .ok (.getfield 12, 3) := by decide +kernel
theorem d_K_settle_149 : decode b_K_settle 149 = .ok (.iload_n 1, 1) := by decide +kernel
theorem d_K_settle_150 : decode b_K_settle 150 = .ok (.lload_n 2, 1) := by decide +kernel
theorem d_K_settle_151 : decode b_K_settle 151 = .ok (.invokevirtual 68, 3) := by decide +kernel
theorem d_K_settle_154 : decode b_K_settle 154 = .ok (.aload_n 0, 1) := by decide +kernel
theorem d_K_settle_155 : decode b_K_settle 155 = .ok (.getfield 18, 3) := by decide +kernel
theorem d_K_settle_158 : decode b_K_settle 158 = .ok (.iload_n 1, 1) := by decide +kernel
theorem d_K_settle_159 : decode b_K_settle 159 = .ok (.lload 4, 2) := by decide +kernel
theorem d_K_settle_161 : decode b_K_settle 161 = .ok (.invokevirtual 68, 3) := by decide +kernel
theorem d_K_settle_164 : decode b_K_settle 164 = .ok (.aload_n 0, 1) := by decide +kernel
theorem d_K_settle_165 : decode b_K_settle 165 = .ok (.invokevirtual 25, 3) := by decide +kernel
theorem d_K_settle_168 : decode b_K_settle 168 = .ok (.return_, 1) := by decide +kernel
end
section
theorem d_U_init_0 : decode b_U_init 0 = .ok (.aload_n 0, 1) := by decide +kernel
theorem d_U_init_1 : decode b_U_init 1 = .ok (.invokespecial 1, 3) := by decide +kernel
theorem d_U_init_4 : decode b_U_init 4 = .ok (.aload_n 0, 1) := by decide +kernel
theorem d_U_init_5 : decode b_U_init 5 = .ok (.new 7, 3) := by decide +kernel
theorem d_U_init_8 : decode b_U_init 8 = .ok (.dup, 1) := by decide +kernel
theorem d_U_init_9 : decode b_U_init 9 = .ok (.invokespecial 9, 3) := by decide +kernel
theorem d_U_init_12 : decode b_U_init 12 = .ok (.putfield 10, 3) := by decide +kernel
theorem d_U_init_15 : decode b_U_init 15 = .ok (.aload_n 0, 1) := by decide +kernel
theorem d_U_init_16 : decode b_U_init 16 = .ok (.new 7, 3) := by decide +kernel
theorem d_U_init_19 : decode b_U_init 19 = .ok (.dup, 1) := by decide +kernel
theorem d_U_init_20 : decode b_U_init 20 = .ok (.invokespecial 9, 3) := by decide +kernel
theorem d_U_init_23 : decode b_U_init 23 = .ok (.putfield 16, 3) := by decide +kernel
theorem d_U_init_26 : decode b_U_init 26 = .ok (.aload_n 0, 1) := by decide +kernel
theorem d_U_init_27 : decode b_U_init 27 = .ok (.new 7, 3) := by decide +kernel
theorem d_U_init_30 : decode b_U_init 30 = .ok (.dup, 1) := by decide +kernel
theorem d_U_init_31 : decode b_U_init 31 = .ok (.invokespecial 9, 3) := by decide +kernel
theorem d_U_init_34 : decode b_U_init 34 = .ok (.putfield 19, 3) := by decide +kernel
theorem d_U_init_37 : decode b_U_init 37 = .ok (.aload_n 0, 1) := by decide +kernel
theorem d_U_init_38 : decode b_U_init 38 = .ok (.new 7, 3) := by decide +kernel
theorem d_U_init_41 : decode b_U_init 41 = .ok (.dup, 1) := by decide +kernel
theorem d_U_init_42 : decode b_U_init 42 = .ok (.invokespecial 9, 3) := by decide +kernel
theorem d_U_init_45 : decode b_U_init 45 = .ok (.putfield 22, 3) := by decide +kernel
theorem d_U_init_48 : decode b_U_init 48 = .ok (.aload_n 0, 1) := by decide +kernel
theorem d_U_init_49 : decode b_U_init 49 = .ok (.new 7, 3) := by decide +kernel
theorem d_U_init_52 : decode b_U_init 52 = .ok (.dup, 1) := by decide +kernel
theorem d_U_init_53 : decode b_U_init 53 = .ok (.invokespecial 9, 3) := by decide +kernel
theorem d_U_init_56 : decode b_U_init 56 = .ok (.putfield 25, 3) := by decide +kernel
theorem d_U_init_59 : decode b_U_init 59 = .ok (.aload_n 0, 1) := by decide +kernel
theorem d_U_init_60 : decode b_U_init 60 = .ok (.new 7, 3) := by decide +kernel
theorem d_U_init_63 : decode b_U_init 63 = .ok (.dup, 1) := by decide +kernel
theorem d_U_init_64 : decode b_U_init 64 = .ok (.invokespecial 9, 3) := by decide +kernel
theorem d_U_init_67 : decode b_U_init 67 = .ok (.putfield 28, 3) := by decide +kernel
theorem d_U_init_70 : decode b_U_init 70 = .ok (.aload_n 0, 1) := by decide +kernel
theorem d_U_init_71 : decode b_U_init 71 = .ok (.new 7, 3) := by decide +kernel
theorem d_U_init_74 : decode b_U_init 74 = .ok (.dup, 1) := by decide +kernel
theorem d_U_init_75 : decode b_U_init 75 = .ok (.invokespecial 9, 3) := by decide +kernel
theorem d_U_init_78 : decode b_U_init 78 = .ok (.putfield 31, 3) := by decide +kernel
theorem d_U_init_81 : decode b_U_init 81 = .ok (.aload_n 0, 1) := by decide +kernel
theorem d_U_init_82 : decode b_U_init 82 = .ok (.new 7, 3) := by decide +kernel
theorem d_U_init_85 : decode b_U_init 85 = .ok (.dup, 1) := by decide +kernel
theorem d_U_init_86 : decode b_U_init 86 = .ok (.invokespecial 9, 3) := by decide +kernel
theorem d_U_init_89 : decode b_U_init 89 = .ok (.putfield 34, 3) := by decide +kernel
theorem d_U_init_92 : decode b_U_init 92 = .ok (.aload_n 0, 1) := by decide +kernel
theorem d_U_init_93 : decode b_U_init 93 = .ok (.new 37, 3) := by decide +kernel
theorem d_U_init_96 : decode b_U_init 96 = .ok (.dup, 1) := by decide +kernel
theorem d_U_init_97 : decode b_U_init 97 = .ok (.invokespecial 39, 3) := by decide +kernel
theorem d_U_init_100 : decode b_U_init 100 = .ok (.putfield 40, 3) := by decide +kernel
theorem d_U_init_103 : decode b_U_init 103 = .ok (.aload_n 0, 1) := by decide +kernel
theorem d_U_init_104 : decode b_U_init 104 = .ok (.bipush (-4), 2) := by decide +kernel
theorem d_U_init_106 : decode b_U_init 106 = .ok (.invokevirtual 44, 3) := by decide +kernel
theorem d_U_init_109 : decode b_U_init 109 = .ok (.return_, 1) := by decide +kernel
theorem d_U_take_0 : decode b_U_take 0 = .ok (.iload_n 1, 1) := by decide +kernel
theorem d_U_take_1 : decode b_U_take 1 = .ok (.invokestatic 48, 3) := by decide +kernel
theorem d_U_take_4 : decode b_U_take 4 = .ok (.ifCond .ne 13, 3) := by decide +kernel
theorem d_U_take_7 : decode b_U_take 7 = .ok (.new 52, 3) := by decide +kernel
theorem d_U_take_10 : decode b_U_take 10 = .ok (.dup, 1) := by decide +kernel
theorem d_U_take_11 : decode b_U_take 11 = .ok (.ldc 54, 2) := by decide +kernel
theorem d_U_take_13 : decode b_U_take 13 = .ok (.invokespecial 56, 3) := by decide +kernel
theorem d_U_take_16 : decode b_U_take 16 = .ok (.athrow, 1) := by decide +kernel
theorem d_U_take_17 : decode b_U_take 17 = .ok (.aload_n 0, 1) := by decide +kernel
theorem d_U_take_18 : decode b_U_take 18 = .ok (.iload_n 1, 1) := by decide +kernel
theorem d_U_take_19 : decode b_U_take 19 = .ok (.invokevirtual 44, 3) := by decide +kernel
theorem d_U_take_22 : decode b_U_take 22 = .ok (.aload_n 0, 1) := by decide +kernel
theorem d_U_take_23 : decode b_U_take 23 = .ok (.getfield 10, 3) := by decide +kernel
theorem d_U_take_26 : decode b_U_take 26 = .ok (.invokevirtual 59, 3) := by decide +kernel
theorem d_U_take_29 : decode b_U_take 29 = .ok (.ireturn, 1) := by decide +kernel
theorem d_U_count_0 : decode b_U_count 0 = .ok (.iload_n 1, 1) := by decide +kernel
theorem d_U_count_1 : decode b_U_count 1 = .ok (.tableswitch 62 0 3 #[31, 36, 41, 57], 31) := by decide +kernel
theorem d_U_count_32 : decode b_U_count 32 = .ok (.aload_n 0, 1) := by decide +kernel
theorem d_U_count_33 : decode b_U_count 33 = .ok (.getfield 63, 3) := by decide +kernel
theorem d_U_count_36 : decode b_U_count 36 = .ok (.ireturn, 1) := by decide +kernel
theorem d_U_count_37 : decode b_U_count 37 = .ok (.aload_n 0, 1) := by decide +kernel
theorem d_U_count_38 : decode b_U_count 38 = .ok (.getfield 67, 3) := by decide +kernel
theorem d_U_count_41 : decode b_U_count 41 = .ok (.ireturn, 1) := by decide +kernel
theorem d_U_count_42 : decode b_U_count 42 = .ok (.aload_n 0, 1) := by decide +kernel
theorem d_U_count_43 : decode b_U_count 43 = .ok (.getfield 34, 3) := by decide +kernel
theorem d_U_count_46 : decode b_U_count 46 = .ok (.invokevirtual 70, 3) := by decide +kernel
theorem d_U_count_49 : decode b_U_count 49 = .ok (.ifCond .ne 7, 3) := by decide +kernel
theorem d_U_count_52 : decode b_U_count 52 = .ok (.iconst 0, 1) := by decide +kernel
theorem d_U_count_53 : decode b_U_count 53 = .ok (.goto 4, 3) := by decide +kernel
theorem d_U_count_56 : decode b_U_count 56 = .ok (.iconst 1, 1) := by decide +kernel
theorem d_U_count_57 : decode b_U_count 57 = .ok (.ireturn, 1) := by decide +kernel
theorem d_U_count_58 : decode b_U_count 58 = .ok (.aload_n 0, 1) := by decide +kernel
theorem d_U_count_59 : decode b_U_count 59 = .ok (.invokevirtual 73, 3) := by decide +kernel
theorem d_U_count_62 : decode b_U_count 62 = .ok (.ireturn, 1) := by decide +kernel
theorem d_U_count_63 : decode b_U_count 63 = .ok (.iconst (-1), 1) := by decide +kernel
theorem d_U_count_64 : decode b_U_count 64 = .ok (.ireturn, 1) := by decide +kernel
theorem d_U_ask_0 : decode b_U_ask 0 = .ok (.iload_n 1, 1) := by decide +kernel
theorem d_U_ask_1 : decode b_U_ask 1 = .ok (.invokestatic 76, 3) := by decide +kernel
theorem d_U_ask_4 : decode b_U_ask 4 = .ok (.ifCond .eq 17, 3) := by decide +kernel
theorem d_U_ask_7 : decode b_U_ask 7 = .ok (.iload_n 2, 1) := by decide +kernel
theorem d_U_ask_8 : decode b_U_ask 8 = .ok (.invokestatic 76, 3) := by decide +kernel
theorem d_U_ask_11 : decode b_U_ask 11 = .ok (.ifCond .eq 10, 3) := by decide +kernel
theorem d_U_ask_14 : decode b_U_ask 14 = .ok (.iload_n 3, 1) := by decide +kernel
theorem d_U_ask_15 : decode b_U_ask 15 = .ok (.invokestatic 76, 3) := by decide +kernel
theorem d_U_ask_18 : decode b_U_ask 18 = .ok (.ifCond .ne 13, 3) := by decide +kernel
theorem d_U_ask_21 : decode b_U_ask 21 = .ok (.new 52, 3) := by decide +kernel
theorem d_U_ask_24 : decode b_U_ask 24 = .ok (.dup, 1) := by decide +kernel
theorem d_U_ask_25 : decode b_U_ask 25 = .ok (.ldc 79, 2) := by decide +kernel
theorem d_U_ask_27 : decode b_U_ask 27 = .ok (.invokespecial 56, 3) := by decide +kernel
theorem d_U_ask_30 : decode b_U_ask 30 = .ok (.athrow, 1) := by decide +kernel
theorem d_U_ask_31 : decode b_U_ask 31 = .ok (.iload_n 2, 1) := by decide +kernel
theorem d_U_ask_32 : decode b_U_ask 32 = .ok (.i2l, 1) := by decide +kernel
theorem d_U_ask_33 : decode b_U_ask 33 = .ok (.iload_n 2, 1) := by decide +kernel
theorem d_U_ask_34 : decode b_U_ask 34 = .ok (.i2l, 1) := by decide +kernel
theorem d_U_ask_35 : decode b_U_ask 35 = .ok (.lmul, 1) := by decide +kernel
theorem d_U_ask_36 : decode b_U_ask 36 = .ok (.ldc2_w 81, 3) := by decide +kernel
theorem d_U_ask_39 : decode b_U_ask 39 = .ok (.iload_n 1, 1) := by decide +kernel
theorem d_U_ask_40 : decode b_U_ask 40 = .ok (.i2l, 1) := by decide +kernel
theorem d_U_ask_41 : decode b_U_ask 41 = .ok (.lmul, 1) := by decide +kernel
theorem d_U_ask_42 : decode b_U_ask 42 = .ok (.iload_n 3, 1) := by decide +kernel
theorem d_U_ask_43 : decode b_U_ask 43 = .ok (.i2l, 1) := by decide +kernel
theorem d_U_ask_44 : decode b_U_ask 44 = .ok (.lmul, 1) := by decide +kernel
theorem d_U_ask_45 : decode b_U_ask 45 = .ok (.lsub, 1) := by decide +kernel
theorem d_U_ask_46 : decode b_U_ask 46 = .ok (.aload_n 0, 1) := by decide +kernel
theorem d_U_ask_47 : decode b_U_ask 47 = .ok (.getfield 63, 3) := by decide +kernel
theorem d_U_ask_50 : decode b_U_ask 50 = .ok (.i2l, 1) := by decide +kernel
theorem d_U_ask_51 : decode b_U_ask 51 = .ok (.lcmp, 1) := by decide +kernel
theorem d_U_ask_52 : decode b_U_ask 52 = .ok (.ifCond .eq 13, 3) := by decide +kernel
theorem d_U_ask_55 : decode b_U_ask 55 = .ok (.new 52, 3) := by decide +kernel
theorem d_U_ask_58 : decode b_U_ask 58 = .ok (.dup, 1) := by decide +kernel
theorem d_U_ask_59 : decode b_U_ask 59 = .ok (.ldc 83, 2) := by decide +kernel
theorem d_U_ask_61 : decode b_U_ask 61 = .ok (.invokespecial 56, 3) := by decide +kernel
theorem d_U_ask_64 : decode b_U_ask 64 = .ok (.athrow, 1) := by decide +kernel
theorem d_U_ask_65 : decode b_U_ask 65 = .ok (.iload_n 1, 1) := by decide +kernel
theorem d_U_ask_66 : decode b_U_ask 66 = .ok (.iload_n 2, 1) := by decide +kernel
theorem d_U_ask_67 : decode b_U_ask 67 = .ok (.invokestatic 85, 3) := by decide +kernel
theorem d_U_ask_70 : decode b_U_ask 70 = .ok (.iload_n 3, 1) := by decide +kernel
theorem d_U_ask_71 : decode b_U_ask 71 = .ok (.invokestatic 85, 3) := by decide +kernel
theorem d_U_ask_74 : decode b_U_ask 74 = .ok (.iconst 1, 1) := by decide +kernel
theorem d_U_ask_75 : decode b_U_ask 75 = .ok (.if_icmp .eq 13, 3) := by decide +kernel
theorem d_U_ask_78 : decode b_U_ask 78 = .ok (.new 52, 3) := by decide +kernel
theorem d_U_ask_81 : decode b_U_ask 81 = .ok (.dup, 1) := by decide +kernel
theorem d_U_ask_82 : decode b_U_ask 82 = .ok (.ldc 89, 2) := by decide +kernel
theorem d_U_ask_84 : decode b_U_ask 84 = .ok (.invokespecial 56, 3) := by decide +kernel
theorem d_U_ask_87 : decode b_U_ask 87 = .ok (.athrow, 1) := by decide +kernel
theorem d_U_ask_88 : decode b_U_ask 88 = .ok (.aload_n 0, 1) := by decide +kernel
theorem d_U_ask_89 : decode b_U_ask 89 = .ok (.iload_n 1, 1) := by decide +kernel
theorem d_U_ask_90 : decode b_U_ask 90 = .ok (.iload_n 2, 1) := by decide +kernel
theorem d_U_ask_91 : decode b_U_ask 91 = .ok (.iload_n 3, 1) := by decide +kernel
theorem d_U_ask_92 : decode b_U_ask 92 = .ok (.invokevirtual 91, 3) := by decide +kernel
theorem d_U_ask_95 : decode b_U_ask 95 = .ok (.return_, 1) := by decide +kernel
theorem d_U_power_0 : decode b_U_power 0 = .ok (.iload_n 1, 1) := by decide +kernel
theorem d_U_power_1 : decode b_U_power 1 = .ok (.ifCond .lt 17, 3) := by decide +kernel
theorem d_U_power_4 : decode b_U_power 4 = .ok (.iload_n 2, 1) := by decide +kernel
theorem d_U_power_5 : decode b_U_power 5 = .ok (.iconst 1, 1) := by decide +kernel
theorem d_U_power_6 : decode b_U_power 6 = .ok (.if_icmp .lt 12, 3) := by decide +kernel
theorem d_U_power_9 : decode b_U_power 9 = .ok (.iload_n 3, 1) := by decide +kernel
theorem d_U_power_10 : decode b_U_power 10 = .ok (.ifCond .lt 8, 3) := by decide +kernel
theorem d_U_power_13 : decode b_U_power 13 = .ok (.iload_n 3, 1) := by decide +kernel
theorem d_U_power_14 : decode b_U_power 14 = .ok (.iconst 1, 1) := by decide +kernel
theorem d_U_power_15 : decode b_U_power 15 = .ok (.if_icmp .le 13, 3) := by decide +kernel
theorem d_U_power_18 : decode b_U_power 18 = .ok (.new 52, 3) := by decide +kernel
theorem d_U_power_21 : decode b_U_power 21 = .ok (.dup, 1) := by decide +kernel
theorem d_U_power_22 : decode b_U_power 22 = .ok (.ldc 95, 2) := by decide +kernel
theorem d_U_power_24 : decode b_U_power 24 = .ok (.invokespecial 56, 3) := by decide +kernel
theorem d_U_power_27 : decode b_U_power 27 = .ok (.athrow, 1) := by decide +kernel
theorem d_U_power_28 : decode b_U_power 28 = .ok (.aload_n 0, 1) := by decide +kernel
theorem d_U_power_29 : decode b_U_power 29 = .ok (.getfield 10, 3) := by decide +kernel
theorem d_U_power_32 : decode b_U_power 32 = .ok (.iload_n 2, 1) := by decide +kernel
theorem d_U_power_33 : decode b_U_power 33 = .ok (.invokevirtual 97, 3) := by decide +kernel
theorem d_U_power_36 : decode b_U_power 36 = .ok (.lstore 4, 2) := by decide +kernel
theorem d_U_power_38 : decode b_U_power 38 = .ok (.lconst 0, 1) := by decide +kernel
theorem d_U_power_39 : decode b_U_power 39 = .ok (.lstore 6, 2) := by decide +kernel
theorem d_U_power_41 : decode b_U_power 41 = .ok (.iconst 1, 1) := by decide +kernel
theorem d_U_power_42 : decode b_U_power 42 = .ok (.iload_n 2, 1) := by decide +kernel
theorem d_U_power_43 : decode b_U_power 43 = .ok (.irem, 1) := by decide +kernel
theorem d_U_power_44 : decode b_U_power 44 = .ok (.i2l, 1) := by decide +kernel
theorem d_U_power_45 : decode b_U_power 45 = .ok (.lstore 8, 2) := by decide +kernel
theorem d_U_power_47 : decode b_U_power 47 = .ok (.bipush 30, 2) := by decide +kernel
theorem d_U_power_49 : decode b_U_power 49 = .ok (.istore 10, 2) := by decide +kernel
theorem d_U_power_51 : decode b_U_power 51 = .ok (.iload 10, 2) := by decide +kernel
theorem d_U_power_53 : decode b_U_power 53 = .ok (.ifCond .lt 91, 3) := by decide +kernel
theorem d_U_power_56 : decode b_U_power 56 = .ok (.lload 6, 2) := by decide +kernel
theorem d_U_power_58 : decode b_U_power 58 = .ok (.ldc2_w 101, 3) := by decide +kernel
theorem d_U_power_61 : decode b_U_power 61 = .ok (.lload 8, 2) := by decide +kernel
theorem d_U_power_63 : decode b_U_power 63 = .ok (.lmul, 1) := by decide +kernel
theorem d_U_power_64 : decode b_U_power 64 = .ok (.lload 4, 2) := by decide +kernel
theorem d_U_power_66 : decode b_U_power 66 = .ok (.lload 6, 2) := by decide +kernel
theorem d_U_power_68 : decode b_U_power 68 = .ok (.lmul, 1) := by decide +kernel
theorem d_U_power_69 : decode b_U_power 69 = .ok (.lsub, 1) := by decide +kernel
theorem d_U_power_70 : decode b_U_power 70 = .ok (.iload_n 2, 1) := by decide +kernel
theorem d_U_power_71 : decode b_U_power 71 = .ok (.i2l, 1) := by decide +kernel
theorem d_U_power_72 : decode b_U_power 72 = .ok (.invokestatic 103, 3) := by decide +kernel
theorem d_U_power_75 : decode b_U_power 75 = .ok (.lmul, 1) := by decide +kernel
theorem d_U_power_76 : decode b_U_power 76 = .ok (.iload_n 2, 1) := by decide +kernel
theorem d_U_power_77 : decode b_U_power 77 = .ok (.i2l, 1) := by decide +kernel
theorem d_U_power_78 : decode b_U_power 78 = .ok (.lrem, 1) := by decide +kernel
theorem d_U_power_79 : decode b_U_power 79 = .ok (.lstore 11, 2) := by decide +kernel
theorem d_U_power_81 : decode b_U_power 81 = .ok (.lload 8, 2) := by decide +kernel
theorem d_U_power_83 : decode b_U_power 83 = .ok (.lload 8, 2) := by decide +kernel
theorem d_U_power_85 : decode b_U_power 85 = .ok (.lmul, 1) := by decide +kernel
theorem d_U_power_86 : decode b_U_power 86 = .ok (.lload 6, 2) := by decide +kernel
theorem d_U_power_88 : decode b_U_power 88 = .ok (.lload 6, 2) := by decide +kernel
theorem d_U_power_90 : decode b_U_power 90 = .ok (.lmul, 1) := by decide +kernel
theorem d_U_power_91 : decode b_U_power 91 = .ok (.lsub, 1) := by decide +kernel
theorem d_U_power_92 : decode b_U_power 92 = .ok (.iload_n 2, 1) := by decide +kernel
theorem d_U_power_93 : decode b_U_power 93 = .ok (.i2l, 1) := by decide +kernel
theorem d_U_power_94 : decode b_U_power 94 = .ok (.invokestatic 103, 3) := by decide +kernel
theorem d_U_power_97 : decode b_U_power 97 = .ok (.lstore 13, 2) := by decide +kernel
theorem d_U_power_99 : decode b_U_power 99 = .ok (.iload_n 1, 1) := by decide +kernel
theorem d_U_power_100 : decode b_U_power 100 = .ok (.iload 10, 2) := by decide +kernel
theorem d_U_power_102 : decode b_U_power 102 = .ok (.iushr, 1) := by decide +kernel
theorem d_U_power_103 : decode b_U_power 103 = .ok (.iconst 1, 1) := by decide +kernel
theorem d_U_power_104 : decode b_U_power 104 = .ok (.iand, 1) := by decide +kernel
theorem d_U_power_105 : decode b_U_power 105 = .ok (.ifCond .ne 14, 3) := by decide +kernel
theorem d_U_power_108 : decode b_U_power 108 = .ok (.lload 11, 2) := by decide +kernel
theorem d_U_power_110 : decode b_U_power 110 = .ok (.lstore 6, 2) := by decide +kernel
theorem d_U_power_112 : decode b_U_power 112 = .ok (.lload 13, 2) := by decide +kernel
theorem d_U_power_114 : decode b_U_power 114 = .ok (.lstore 8, 2) := by decide +kernel
theorem d_U_power_116 : decode b_U_power 116 = .ok (.goto 22, 3) := by decide +kernel
theorem d_U_power_119 : decode b_U_power 119 = .ok (.lload 13, 2) := by decide +kernel
theorem d_U_power_121 : decode b_U_power 121 = .ok (.lstore 6, 2) := by decide +kernel
theorem d_U_power_123 : decode b_U_power 123 = .ok (.lload 4, 2) := by decide +kernel
theorem d_U_power_125 : decode b_U_power 125 = .ok (.lload 13, 2) := by decide +kernel
theorem d_U_power_127 : decode b_U_power 127 = .ok (.lmul, 1) := by decide +kernel
theorem d_U_power_128 : decode b_U_power 128 = .ok (.lload 11, 2) := by decide +kernel
theorem d_U_power_130 : decode b_U_power 130 = .ok (.lsub, 1) := by decide +kernel
theorem d_U_power_131 : decode b_U_power 131 = .ok (.iload_n 2, 1) := by decide +kernel
theorem d_U_power_132 : decode b_U_power 132 = .ok (.i2l, 1) := by decide +kernel
theorem d_U_power_133 : decode b_U_power 133 = .ok (.invokestatic 103, 3) := by decide +kernel
theorem d_U_power_136 : decode b_U_power 136 = .ok (.lstore 8, 2) := by decide +kernel
theorem d_U_power_138 : decode b_U_power 138 = .ok (.iinc 10 (-1), 3) := by decide +kernel
theorem d_U_power_141 : decode b_U_power 141 = .ok (.goto (-90), 3) := by decide +kernel
theorem d_U_power_144 : decode b_U_power 144 = .ok (.iload_n 3, 1) := by decide +kernel
theorem d_U_power_145 : decode b_U_power 145 = .ok (.ifCond .ne 23, 3) := by decide +kernel
theorem d_U_power_148 : decode b_U_power 148 = .ok (.ldc2_w 101, 3) := by decide +kernel
theorem d_U_power_151 : decode b_U_power 151 = .ok (.lload 8, 2) := by decide +kernel
theorem d_U_power_153 : decode b_U_power 153 = .ok (.lmul, 1) := by decide +kernel
theorem d_U_power_154 : decode b_U_power 154 = .ok (.lload 4, 2) := by decide +kernel
theorem d_U_power_156 : decode b_U_power 156 = .ok (.lload 6, 2) := by decide +kernel
theorem d_U_power_158 : decode b_U_power 158 = .ok (.lmul, 1) := by decide +kernel
theorem d_U_power_159 : decode b_U_power 159 = .ok (.lsub, 1) := by decide +kernel
theorem d_U_power_160 : decode b_U_power 160 = .ok (.iload_n 2, 1) := by decide +kernel
theorem d_U_power_161 : decode b_U_power 161 = .ok (.i2l, 1) := by decide +kernel
theorem d_U_power_162 : decode b_U_power 162 = .ok (.invokestatic 103, 3) := by decide +kernel
theorem d_U_power_165 : decode b_U_power 165 = .ok (.goto 17, 3) := by decide +kernel
theorem d_U_power_168 : decode b_U_power 168 = .ok (.aload_n 0, 1) := by decide +kernel
theorem d_U_power_169 : decode b_U_power 169 = .ok (.getfield 16, 3) := by decide +kernel
theorem d_U_power_172 : decode b_U_power 172 = .ok (.iload_n 2, 1) := by decide +kernel
theorem d_U_power_173 : decode b_U_power 173 = .ok (.invokevirtual 97, 3) := by decide +kernel
theorem d_U_power_176 : decode b_U_power 176 = .ok (.lload 6, 2) := by decide +kernel
theorem d_U_power_178 : decode b_U_power 178 = .ok (.lmul, 1) := by decide +kernel
theorem d_U_power_179 : decode b_U_power 179 = .ok (.iload_n 2, 1) := by decide +kernel
theorem d_U_power_180 : decode b_U_power 180 = .ok (.i2l, 1) := by decide +kernel
theorem d_U_power_181 : decode b_U_power 181 = .ok (.lrem, 1) := by decide +kernel
theorem d_U_power_182 : decode b_U_power 182 = .ok (.lstore 10, 2) := by decide +kernel
theorem d_U_power_184 : decode b_U_power 184 = .ok (.lload 10, 2) := by decide +kernel
theorem d_U_power_186 : decode b_U_power 186 = .ok (.l2i, 1) := by decide +kernel
theorem d_U_power_187 : decode b_U_power 187 = .ok (.ireturn, 1) := by decide +kernel
theorem d_U_sign_0 : decode b_U_sign 0 = .ok (.aload_n 0, 1) := by decide +kernel
theorem d_U_sign_1 : decode b_U_sign 1 = .ok (.iload_n 1, 1) := by decide +kernel
theorem d_U_sign_2 : decode b_U_sign 2 = .ok (.invokevirtual 109, 3) := by decide +kernel
theorem d_U_sign_5 : decode b_U_sign 5 = .ok (.invokevirtual 70, 3) := by decide +kernel
theorem d_U_sign_8 : decode b_U_sign 8 = .ok (.ireturn, 1) := by decide +kernel
theorem d_U_bits_0 : decode b_U_bits 0 = .ok (.aload_n 0, 1) := by decide +kernel
theorem d_U_bits_1 : decode b_U_bits 1 = .ok (.iload_n 1, 1) := by decide +kernel
theorem d_U_bits_2 : decode b_U_bits 2 = .ok (.invokevirtual 109, 3) := by decide +kernel
theorem d_U_bits_5 : decode b_U_bits 5 = .ok (.invokevirtual 59, 3) := by decide +kernel
theorem d_U_bits_8 : decode b_U_bits 8 = .ok (.ireturn, 1) := by decide +kernel
theorem d_U_word_0 : decode b_U_word 0 = .ok (.aload_n 0, 1) := by decide +kernel
theorem d_U_word_1 : decode b_U_word 1 = .ok (.iload_n 1, 1) := by decide +kernel
theorem d_U_word_2 : decode b_U_word 2 = .ok (.invokevirtual 109, 3) := by decide +kernel
theorem d_U_word_5 : decode b_U_word 5 = .ok (.astore_n 3, 1) := by decide +kernel
theorem d_U_word_6 : decode b_U_word 6 = .ok (.iload_n 2, 1) := by decide +kernel
theorem d_U_word_7 : decode b_U_word 7 = .ok (.ifCond .lt 10, 3) := by decide +kernel
theorem d_U_word_10 : decode b_U_word 10 = .ok (.iload_n 2, 1) := by decide +kernel
theorem d_U_word_11 : decode b_U_word 11 = .ok (.sipush 512, 3) := by decide +kernel
theorem d_U_word_14 : decode b_U_word 14 = .ok (.if_icmp .lt 13, 3) := by decide +kernel
theorem d_U_word_17 : decode b_U_word 17 = .ok (.new 113, 3) := by decide +kernel
theorem d_U_word_20 : decode b_U_word 20 = .ok (.dup, 1) := by decide +kernel
theorem d_U_word_21 : decode b_U_word 21 = .ok (.ldc 115, 2) := by decide +kernel
theorem d_U_word_23 : decode b_U_word 23 = .ok (.invokespecial 117, 3) := by decide +kernel
theorem d_U_word_26 : decode b_U_word 26 = .ok (.athrow, 1) := by decide +kernel
theorem d_U_word_27 : decode b_U_word 27 = .ok (.aload_n 3, 1) := by decide +kernel
theorem d_U_word_28 : decode b_U_word 28 = .ok (.iload_n 2, 1) := by decide +kernel
theorem d_U_word_29 : decode b_U_word 29 = .ok (.invokevirtual 118, 3) := by decide +kernel
theorem d_U_word_32 : decode b_U_word 32 = .ok (.ireturn, 1) := by decide +kernel
theorem d_U_residue_0 : decode b_U_residue 0 = .ok (.aload_n 0, 1) := by decide +kernel
theorem d_U_residue_1 : decode b_U_residue 1 = .ok (.iload_n 1, 1) := by decide +kernel
theorem d_U_residue_2 : decode b_U_residue 2 = .ok (.invokevirtual 109, 3) := by decide +kernel
theorem d_U_residue_5 : decode b_U_residue 5 = .ok (.astore_n 3, 1) := by decide +kernel
theorem d_U_residue_6 : decode b_U_residue 6 = .ok (.iload_n 2, 1) := by decide +kernel
theorem d_U_residue_7 : decode b_U_residue 7 = .ok (.iconst 1, 1) := by decide +kernel
theorem d_U_residue_8 : decode b_U_residue 8 = .ok (.if_icmp .ge 13, 3) := by decide +kernel
theorem d_U_residue_11 : decode b_U_residue 11 = .ok (.new 52, 3) := by decide +kernel
theorem d_U_residue_14 : decode b_U_residue 14 = .ok (.dup, 1) := by decide +kernel
theorem d_U_residue_15 : decode b_U_residue 15 = .ok (.ldc 122, 2) := by decide +kernel
theorem d_U_residue_17 : decode b_U_residue 17 = .ok (.invokespecial 56, 3) := by decide +kernel
theorem d_U_residue_20 : decode b_U_residue 20 = .ok (.athrow, 1) := by decide +kernel
theorem d_U_residue_21 : decode b_U_residue 21 = .ok (.aload_n 3, 1) := by decide +kernel
theorem d_U_residue_22 : decode b_U_residue 22 = .ok (.iload_n 2, 1) := by decide +kernel
theorem d_U_residue_23 : decode b_U_residue 23 = .ok (.invokevirtual 97, 3) := by decide +kernel
theorem d_U_residue_26 : decode b_U_residue 26 = .ok (.l2i, 1) := by decide +kernel
theorem d_U_residue_27 : decode b_U_residue 27 = .ok (.ireturn, 1) := by decide +kernel
theorem d_U_numberAt_0 : decode b_U_numberAt 0 = .ok (.iload_n 1, 1) := by decide +kernel
theorem d_U_numberAt_1 : decode b_U_numberAt 1 = .ok (.tableswitch 87 0 7 #[47, 52, 57, 62, 67, 72, 77, 82], 47) := by decide +kernel
theorem d_U_numberAt_48 : decode b_U_numberAt 48 = .ok (.aload_n 0, 1) := by decide +kernel
theorem d_U_numberAt_49 : decode b_U_numberAt 49 = .ok (.getfield 10, 3) := by decide +kernel
theorem d_U_numberAt_52 : decode b_U_numberAt 52 = .ok (.areturn, 1) := by decide +kernel
theorem d_U_numberAt_53 : decode b_U_numberAt 53 = .ok (.aload_n 0, 1) := by decide +kernel
theorem d_U_numberAt_54 : decode b_U_numberAt 54 = .ok (.getfield 16, 3) := by decide +kernel
theorem d_U_numberAt_57 : decode b_U_numberAt 57 = .ok (.areturn, 1) := by decide +kernel
theorem d_U_numberAt_58 : decode b_U_numberAt 58 = .ok (.aload_n 0, 1) := by decide +kernel
theorem d_U_numberAt_59 : decode b_U_numberAt 59 = .ok (.getfield 19, 3) := by decide +kernel
theorem d_U_numberAt_62 : decode b_U_numberAt 62 = .ok (.areturn, 1) := by decide +kernel
theorem d_U_numberAt_63 : decode b_U_numberAt 63 = .ok (.aload_n 0, 1) := by decide +kernel
theorem d_U_numberAt_64 : decode b_U_numberAt 64 = .ok (.getfield 22, 3) := by decide +kernel
theorem d_U_numberAt_67 : decode b_U_numberAt 67 = .ok (.areturn, 1) := by decide +kernel
theorem d_U_numberAt_68 : decode b_U_numberAt 68 = .ok (.aload_n 0, 1) := by decide +kernel
theorem d_U_numberAt_69 : decode b_U_numberAt 69 = .ok (.getfield 25, 3) := by decide +kernel
theorem d_U_numberAt_72 : decode b_U_numberAt 72 = .ok (.areturn, 1) := by decide +kernel
theorem d_U_numberAt_73 : decode b_U_numberAt 73 = .ok (.aload_n 0, 1) := by decide +kernel
theorem d_U_numberAt_74 : decode b_U_numberAt 74 = .ok (.getfield 28, 3) := by decide +kernel
theorem d_U_numberAt_77 : decode b_U_numberAt 77 = .ok (.areturn, 1) := by decide +kernel
theorem d_U_numberAt_78 : decode b_U_numberAt 78 = .ok (.aload_n 0, 1) := by decide +kernel
theorem d_U_numberAt_79 : decode b_U_numberAt 79 = .ok (.getfield 31, 3) := by decide +kernel
theorem d_U_numberAt_82 : decode b_U_numberAt 82 = .ok (.areturn, 1) := by decide +kernel
theorem d_U_numberAt_83 : decode b_U_numberAt 83 = .ok (.aload_n 0, 1) := by decide +kernel
theorem d_U_numberAt_84 : decode b_U_numberAt 84 = .ok (.getfield 34, 3) := by decide +kernel
theorem d_U_numberAt_87 : decode b_U_numberAt 87 = .ok (.areturn, 1) := by decide +kernel
theorem d_U_numberAt_88 : decode b_U_numberAt 88 = .ok (.new 113, 3) := by decide +kernel
theorem d_U_numberAt_91 : decode b_U_numberAt 91 = .ok (.dup, 1) := by decide +kernel
theorem d_U_numberAt_92 : decode b_U_numberAt 92 = .ok (.ldc 124, 2) := by decide +kernel
theorem d_U_numberAt_94 : decode b_U_numberAt 94 = .ok (.invokespecial 117, 3) := by decide +kernel
theorem d_U_numberAt_97 : decode b_U_numberAt 97 = .ok (.athrow, 1) := by decide +kernel
theorem d_U_canBeTaken_0 : decode b_U_canBeTaken 0 = .ok (.iload_n 0, 1) := by decide +kernel
theorem d_U_canBeTaken_1 : decode b_U_canBeTaken 1 = .ok (.ldc 126, 2) := by decide +kernel
theorem d_U_canBeTaken_3 : decode b_U_canBeTaken 3 = .ok (.if_icmp .lt 16, 3) := by decide +kernel
theorem d_U_canBeTaken_6 : decode b_U_canBeTaken 6 = .ok (.iload_n 0, 1) := by decide +kernel
theorem d_U_canBeTaken_7 : decode b_U_canBeTaken 7 = .ok (.ldc 127, 2) := by decide +kernel
theorem d_U_canBeTaken_9 : decode b_U_canBeTaken 9 = .ok (.if_icmp .gt 10, 3) := by decide +kernel
theorem d_U_canBeTaken_12 : decode b_U_canBeTaken 12 = .ok (.iload_n 0, 1) := by decide +kernel
theorem d_U_canBeTaken_13 : decode b_U_canBeTaken 13 = .ok (.iconst 3, 1) := by decide +kernel
theorem d_U_canBeTaken_14 : decode b_U_canBeTaken 14 = .ok (.iand, 1) := by decide +kernel
theorem d_U_canBeTaken_15 : decode b_U_canBeTaken 15 = .ok (.iconst 1, 1) := by decide +kernel
theorem d_U_canBeTaken_16 : decode b_U_canBeTaken 16 = .ok (.if_icmp .le 5, 3) := by decide +kernel
theorem d_U_canBeTaken_19 : decode b_U_canBeTaken 19 = .ok (.iconst 0, 1) := by decide +kernel
theorem d_U_canBeTaken_20 : decode b_U_canBeTaken 20 = .ok (.ireturn, 1) := by decide +kernel
theorem d_U_canBeTaken_21 : decode b_U_canBeTaken 21 = .ok (.iload_n 0, 1) := by decide +kernel
theorem d_U_canBeTaken_22 : decode b_U_canBeTaken 22 = .ok (.invokestatic 128, 3) := by decide +kernel
theorem d_U_canBeTaken_25 : decode b_U_canBeTaken 25 = .ok (.istore_n 1, 1) := by decide +kernel
theorem d_U_canBeTaken_26 : decode b_U_canBeTaken 26 = .ok (.iload_n 1, 1) := by decide +kernel
theorem d_U_canBeTaken_27 : decode b_U_canBeTaken 27 = .ok (.iload_n 1, 1) := by decide +kernel
theorem d_U_canBeTaken_28 : decode b_U_canBeTaken 28 = .ok (.imul, 1) := by decide +kernel
theorem d_U_canBeTaken_29 : decode b_U_canBeTaken 29 = .ok (.iload_n 0, 1) := by decide +kernel
theorem d_U_canBeTaken_30 : decode b_U_canBeTaken 30 = .ok (.if_icmp .eq 7, 3) := by decide +kernel
theorem d_U_canBeTaken_33 : decode b_U_canBeTaken 33 = .ok (.iconst 1, 1) := by decide +kernel
theorem d_U_canBeTaken_34 : decode b_U_canBeTaken 34 = .ok (.goto 4, 3) := by decide +kernel
theorem d_U_canBeTaken_37 : decode b_U_canBeTaken 37 = .ok (.iconst 0, 1) := by decide +kernel
theorem d_U_canBeTaken_38 : decode b_U_canBeTaken 38 = .ok (.ireturn, 1) := by decide +kernel
theorem d_U_rootOf_0 : decode b_U_rootOf 0 = .ok (.iconst 0, 1) := by decide +kernel
theorem d_U_rootOf_1 : decode b_U_rootOf 1 = .ok (.istore_n 1, 1) := by decide +kernel
theorem d_U_rootOf_2 : decode b_U_rootOf 2 = .ok (.sipush 1024, 3) := by decide +kernel
theorem d_U_rootOf_5 : decode b_U_rootOf 5 = .ok (.istore_n 2, 1) := by decide +kernel
theorem d_U_rootOf_6 : decode b_U_rootOf 6 = .ok (.iload_n 2, 1) := by decide +kernel
theorem d_U_rootOf_7 : decode b_U_rootOf 7 = .ok (.ifCond .le 23, 3) := by decide +kernel
theorem d_U_rootOf_10 : decode b_U_rootOf 10 = .ok (.iload_n 1, 1) := by decide +kernel
theorem d_U_rootOf_11 : decode b_U_rootOf 11 = .ok (.iload_n 2, 1) := by decide +kernel
theorem d_U_rootOf_12 : decode b_U_rootOf 12 = .ok (.iadd, 1) := by decide +kernel
theorem d_U_rootOf_13 : decode b_U_rootOf 13 = .ok (.istore_n 3, 1) := by decide +kernel
theorem d_U_rootOf_14 : decode b_U_rootOf 14 = .ok (.iload_n 3, 1) := by decide +kernel
theorem d_U_rootOf_15 : decode b_U_rootOf 15 = .ok (.iload_n 3, 1) := by decide +kernel
theorem d_U_rootOf_16 : decode b_U_rootOf 16 = .ok (.imul, 1) := by decide +kernel
theorem d_U_rootOf_17 : decode b_U_rootOf 17 = .ok (.iload_n 0, 1) := by decide +kernel
theorem d_U_rootOf_18 : decode b_U_rootOf 18 = .ok (.if_icmp .gt 5, 3) := by decide +kernel
theorem d_U_rootOf_21 : decode b_U_rootOf 21 = .ok (.iload_n 3, 1) := by decide +kernel
theorem d_U_rootOf_22 : decode b_U_rootOf 22 = .ok (.istore_n 1, 1) := by decide +kernel
theorem d_U_rootOf_23 : decode b_U_rootOf 23 = .ok (.iload_n 2, 1) := by decide +kernel
theorem d_U_rootOf_24 : decode b_U_rootOf 24 = .ok (.iconst 1, 1) := by decide +kernel
theorem d_U_rootOf_25 : decode b_U_rootOf 25 = .ok (.ishr, 1) := by decide +kernel
theorem d_U_rootOf_26 : decode b_U_rootOf 26 = .ok (.istore_n 2, 1) := by decide +kernel
theorem d_U_rootOf_27 : decode b_U_rootOf 27 = .ok (.goto (-21), 3) := by decide +kernel
theorem d_U_rootOf_30 : decode b_U_rootOf 30 = .ok (.iload_n 1, 1) := by decide +kernel
theorem d_U_rootOf_31 : decode b_U_rootOf 31 = .ok (.ireturn, 1) := by decide +kernel
theorem d_U_countUnits_0 : decode b_U_countUnits 0 = .ok (.aload_n 0, 1) := by decide +kernel
theorem d_U_countUnits_1 : decode b_U_countUnits 1 = .ok (.getfield 63, 3) := by decide +kernel
theorem d_U_countUnits_4 : decode b_U_countUnits 4 = .ok (.ifCond .le 5, 3) := by decide +kernel
theorem d_U_countUnits_7 : decode b_U_countUnits 7 = .ok (.iconst (-1), 1) := by decide +kernel
theorem d_U_countUnits_8 : decode b_U_countUnits 8 = .ok (.ireturn, 1) := by decide +kernel
theorem d_U_countUnits_9 : decode b_U_countUnits 9 = .ok (.aload_n 0, 1) := by decide +kernel
theorem d_U_countUnits_10 : decode b_U_countUnits 10 = .ok (.getfield 63, 3) := by decide +kernel
theorem d_U_countUnits_13 : decode b_U_countUnits 13 = .ok (.bipush (-3), 2) := by decide +kernel
theorem d_U_countUnits_15 : decode b_U_countUnits 15 = .ok (.if_icmp .ne 6, 3) := by decide +kernel
theorem d_U_countUnits_18 : decode b_U_countUnits 18 = .ok (.bipush 6, 2) := by decide +kernel
theorem d_U_countUnits_20 : decode b_U_countUnits 20 = .ok (.ireturn, 1) := by decide +kernel
theorem d_U_countUnits_21 : decode b_U_countUnits 21 = .ok (.aload_n 0, 1) := by decide +kernel
theorem d_U_countUnits_22 : decode b_U_countUnits 22 = .ok (.getfield 63, 3) := by decide +kernel
theorem d_U_countUnits_25 : decode b_U_countUnits 25 = .ok (.bipush (-4), 2) := by decide +kernel
theorem d_U_countUnits_27 : decode b_U_countUnits 27 = .ok (.if_icmp .ne 7, 3) := by decide +kernel
theorem d_U_countUnits_30 : decode b_U_countUnits 30 = .ok (.iconst 4, 1) := by decide +kernel
theorem d_U_countUnits_31 : decode b_U_countUnits 31 = .ok (.goto 4, 3) := by decide +kernel
theorem d_U_countUnits_34 : decode b_U_countUnits 34 = .ok (.iconst 2, 1) := by decide +kernel
theorem d_U_countUnits_35 : decode b_U_countUnits 35 = .ok (.ireturn, 1) := by decide +kernel
theorem d_U_isCoefficient_0 : decode b_U_isCoefficient 0 = .ok (.iload_n 0, 1) := by decide +kernel
theorem d_U_isCoefficient_1 : decode b_U_isCoefficient 1 = .ok (.ldc 131, 2) := by decide +kernel
theorem d_U_isCoefficient_3 : decode b_U_isCoefficient 3 = .ok (.if_icmp .lt 13, 3) := by decide +kernel
theorem d_U_isCoefficient_6 : decode b_U_isCoefficient 6 = .ok (.iload_n 0, 1) := by decide +kernel
theorem d_U_isCoefficient_7 : decode b_U_isCoefficient 7 = .ok (.ldc 132, 2) := by decide +kernel
theorem d_U_isCoefficient_9 : decode b_U_isCoefficient 9 = .ok (.if_icmp .gt 7, 3) := by decide +kernel
theorem d_U_isCoefficient_12 : decode b_U_isCoefficient 12 = .ok (.iconst 1, 1) := by decide +kernel
theorem d_U_isCoefficient_13 : decode b_U_isCoefficient 13 = .ok (.goto 4, 3) := by decide +kernel
theorem d_U_isCoefficient_16 : decode b_U_isCoefficient 16 = .ok (.iconst 0, 1) := by decide +kernel
theorem d_U_isCoefficient_17 : decode b_U_isCoefficient 17 = .ok (.ireturn, 1) := by decide +kernel
theorem d_U_commonDivisor_0 : decode b_U_commonDivisor 0 = .ok (.iload_n 0, 1) := by decide +kernel
theorem d_U_commonDivisor_1 : decode b_U_commonDivisor 1 = .ok (.invokestatic 133, 3) := by decide +kernel
theorem d_U_commonDivisor_4 : decode b_U_commonDivisor 4 = .ok (.istore_n 2, 1) := by decide +kernel
theorem d_U_commonDivisor_5 : decode b_U_commonDivisor 5 = .ok (.iload_n 1, 1) := by decide +kernel
theorem d_U_commonDivisor_6 : decode b_U_commonDivisor 6 = .ok (.invokestatic 133, 3) := by decide +kernel
theorem d_U_commonDivisor_9 : decode b_U_commonDivisor 9 = .ok (.istore_n 3, 1) := by decide +kernel
theorem d_U_commonDivisor_10 : decode b_U_commonDivisor 10 = .ok (.iconst 0, 1) := by decide +kernel
theorem d_U_commonDivisor_11 : decode b_U_commonDivisor 11 = .ok (.istore 4, 2) := by decide +kernel
theorem d_U_commonDivisor_13 : decode b_U_commonDivisor 13 = .ok (.iload_n 3, 1) := by decide +kernel
theorem d_U_commonDivisor_14 : decode b_U_commonDivisor 14 = .ok (.ifCond .eq 26, 3) := by decide +kernel
theorem d_U_commonDivisor_17 : decode b_U_commonDivisor 17 = .ok (.iload 4, 2) := by decide +kernel
theorem d_U_commonDivisor_19 : decode b_U_commonDivisor 19 = .ok (.bipush 64, 2) := by decide +kernel
theorem d_U_commonDivisor_21 : decode b_U_commonDivisor 21 = .ok (.if_icmp .ge 19, 3) := by decide +kernel
theorem d_U_commonDivisor_24 : decode b_U_commonDivisor 24 = .ok (.iload_n 2, 1) := by decide +kernel
theorem d_U_commonDivisor_25 : decode b_U_commonDivisor 25 = .ok (.iload_n 3, 1) := by decide +kernel
theorem d_U_commonDivisor_26 : decode b_U_commonDivisor 26 = .ok (.irem, 1) := by decide +kernel
theorem d_U_commonDivisor_27 : decode b_U_commonDivisor 27 = .ok (.istore 5, 2) := by decide +kernel
theorem d_U_commonDivisor_29 : decode b_U_commonDivisor 29 = .ok (.iload_n 3, 1) := by decide +kernel
theorem d_U_commonDivisor_30 : decode b_U_commonDivisor 30 = .ok (.istore_n 2, 1) := by decide +kernel
theorem d_U_commonDivisor_31 : decode b_U_commonDivisor 31 = .ok (.iload 5, 2) := by decide +kernel
theorem d_U_commonDivisor_33 : decode b_U_commonDivisor 33 = .ok (.istore_n 3, 1) := by decide +kernel
theorem d_U_commonDivisor_34 : decode b_U_commonDivisor 34 = .ok (.iinc 4 1, 3) := by decide +kernel
theorem d_U_commonDivisor_37 : decode b_U_commonDivisor 37 = .ok (.goto (-24), 3) := by decide +kernel
theorem d_U_commonDivisor_40 : decode b_U_commonDivisor 40 = .ok (.iload_n 2, 1) := by decide +kernel
theorem d_U_commonDivisor_41 : decode b_U_commonDivisor 41 = .ok (.ireturn, 1) := by decide +kernel
theorem d_U_become_0 : decode b_U_become 0 = .ok (.aload_n 0, 1) := by decide +kernel
theorem d_U_become_1 : decode b_U_become 1 = .ok (.iload_n 1, 1) := by decide +kernel
theorem d_U_become_2 : decode b_U_become 2 = .ok (.putfield 63, 3) := by decide +kernel
theorem d_U_become_5 : decode b_U_become 5 = .ok (.iload_n 1, 1) := by decide +kernel
theorem d_U_become_6 : decode b_U_become 6 = .ok (.ifCond .le 11, 3) := by decide +kernel
theorem d_U_become_9 : decode b_U_become 9 = .ok (.aload_n 0, 1) := by decide +kernel
theorem d_U_become_10 : decode b_U_become 10 = .ok (.iload_n 1, 1) := by decide +kernel
theorem d_U_become_11 : decode b_U_become 11 = .ok (.invokevirtual 136, 3) := by decide +kernel
theorem d_U_become_14 : decode b_U_become 14 = .ok (.goto 8, 3) := by decide +kernel
theorem d_U_become_17 : decode b_U_become 17 = .ok (.aload_n 0, 1) := by decide +kernel
theorem d_U_become_18 : decode b_U_become 18 = .ok (.iload_n 1, 1) := by decide +kernel
theorem d_U_become_19 : decode b_U_become 19 = .ok (.invokevirtual 139, 3) := by decide +kernel
theorem d_U_become_22 : decode b_U_become 22 = .ok (.iload_n 1, 1) := by decide +kernel
theorem d_U_become_23 : decode b_U_become 23 = .ok (.iconst 1, 1) := by decide +kernel
theorem d_U_become_24 : decode b_U_become 24 = .ok (.iand, 1) := by decide +kernel
theorem d_U_become_25 : decode b_U_become 25 = .ok (.istore_n 2, 1) := by decide +kernel
theorem d_U_become_26 : decode b_U_become 26 = .ok (.aload_n 0, 1) := by decide +kernel
theorem d_U_become_27 : decode b_U_become 27 = .ok (.iconst 1, 1) := by decide +kernel
theorem d_U_become_28 : decode b_U_become 28 = .ok (.iload_n 2, 1) := by decide +kernel
theorem d_U_become_29 : decode b_U_become 29 = .ok (.iload_n 2, 1) := by decide +kernel
theorem d_U_become_30 : decode b_U_become 30 = .ok (.iload_n 1, 1) := by decide +kernel
theorem d_U_become_31 : decode b_U_become 31 = .ok (.isub, 1) := by decide +kernel
theorem d_U_become_32 : decode b_U_become 32 = .ok (.iconst 4, 1) := by decide +kernel
theorem d_U_become_33 : decode b_U_become 33 = .ok (.idiv, 1) := by decide +kernel
theorem d_U_become_34 : decode b_U_become 34 = .ok (.invokevirtual 91, 3) := by decide +kernel
theorem d_U_become_37 : decode b_U_become 37 = .ok (.return_, 1) := by decide +kernel
theorem d_U_setUnitBelow_0 : decode b_U_setUnitBelow 0 = .ok (.aload_n 0, 1) := by decide +kernel
theorem d_U_setUnitBelow_1 : decode b_U_setUnitBelow 1 = .ok (.iconst 0, 1) := by decide +kernel
theorem d_U_setUnitBelow_2 : decode b_U_setUnitBelow 2 = .ok (.putfield 67, 3) := by decide +kernel
theorem d_U_setUnitBelow_5 : decode b_U_setUnitBelow 5 = .ok (.aload_n 0, 1) := by decide +kernel
theorem d_U_setUnitBelow_6 : decode b_U_setUnitBelow 6 = .ok (.getfield 31, 3) := by decide +kernel
theorem d_U_setUnitBelow_9 : decode b_U_setUnitBelow 9 = .ok (.iconst 0, 1) := by decide +kernel
theorem d_U_setUnitBelow_10 : decode b_U_setUnitBelow 10 = .ok (.invokevirtual 142, 3) := by decide +kernel
theorem d_U_setUnitBelow_13 : decode b_U_setUnitBelow 13 = .ok (.aload_n 0, 1) := by decide +kernel
theorem d_U_setUnitBelow_14 : decode b_U_setUnitBelow 14 = .ok (.getfield 34, 3) := by decide +kernel
theorem d_U_setUnitBelow_17 : decode b_U_setUnitBelow 17 = .ok (.iconst 0, 1) := by decide +kernel
theorem d_U_setUnitBelow_18 : decode b_U_setUnitBelow 18 = .ok (.invokevirtual 142, 3) := by decide +kernel
theorem d_U_setUnitBelow_21 : decode b_U_setUnitBelow 21 = .ok (.aload_n 0, 1) := by decide +kernel
theorem d_U_setUnitBelow_22 : decode b_U_setUnitBelow 22 = .ok (.getfield 16, 3) := by decide +kernel
theorem d_U_setUnitBelow_25 : decode b_U_setUnitBelow 25 = .ok (.iload_n 1, 1) := by decide +kernel
theorem d_U_setUnitBelow_26 : decode b_U_setUnitBelow 26 = .ok (.bipush (-4), 2) := by decide +kernel
theorem d_U_setUnitBelow_28 : decode b_U_setUnitBelow 28 = .ok (.if_icmp .lt 7, 3) := by decide +kernel
theorem d_U_setUnitBelow_31 : decode b_U_setUnitBelow 31 = .ok (.iconst 1, 1) := by decide +kernel
theorem d_U_setUnitBelow_32 : decode b_U_setUnitBelow 32 = .ok (.goto 4, 3) := by decide +kernel
theorem d_U_setUnitBelow_35 : decode b_U_setUnitBelow 35 = .ok (.iconst 0, 1) := by decide +kernel
theorem d_U_setUnitBelow_36 : decode b_U_setUnitBelow 36 = .ok (.invokevirtual 142, 3) := by decide +kernel
theorem d_U_setUnitBelow_39 : decode b_U_setUnitBelow 39 = .ok (.iload_n 1, 1) := by decide +kernel
theorem d_U_setUnitBelow_40 : decode b_U_setUnitBelow 40 = .ok (.bipush (-3), 2) := by decide +kernel
theorem d_U_setUnitBelow_42 : decode b_U_setUnitBelow 42 = .ok (.if_icmp .ne 14, 3) := by decide +kernel
theorem d_U_setUnitBelow_45 : decode b_U_setUnitBelow 45 = .ok (.aload_n 0, 1) := by decide +kernel
theorem d_U_setUnitBelow_46 : decode b_U_setUnitBelow 46 = .ok (.getfield 10, 3) := by decide +kernel
theorem d_U_setUnitBelow_49 : decode b_U_setUnitBelow 49 = .ok (.iconst 1, 1) := by decide +kernel
theorem d_U_setUnitBelow_50 : decode b_U_setUnitBelow 50 = .ok (.invokevirtual 142, 3) := by decide +kernel
theorem d_U_setUnitBelow_53 : decode b_U_setUnitBelow 53 = .ok (.goto 21, 3) := by decide +kernel
theorem d_U_setUnitBelow_56 : decode b_U_setUnitBelow 56 = .ok (.aload_n 0, 1) := by decide +kernel
theorem d_U_setUnitBelow_57 : decode b_U_setUnitBelow 57 = .ok (.getfield 10, 3) := by decide +kernel
theorem d_U_setUnitBelow_60 : decode b_U_setUnitBelow 60 = .ok (.iload_n 1, 1) := by decide +kernel
theorem d_U_setUnitBelow_61 : decode b_U_setUnitBelow 61 = .ok (.bipush (-4), 2) := by decide +kernel
theorem d_U_setUnitBelow_63 : decode b_U_setUnitBelow 63 = .ok (.if_icmp .ne 7, 3) := by decide +kernel
theorem d_U_setUnitBelow_66 : decode b_U_setUnitBelow 66 = .ok (.iconst 0, 1) := by decide +kernel
theorem d_U_setUnitBelow_67 : decode b_U_setUnitBelow 67 = .ok (.goto 4, 3) := by decide +kernel
theorem d_U_setUnitBelow_70 : decode b_U_setUnitBelow 70 = .ok (.iconst 2, 1) := by decide +kernel
theorem d_U_setUnitBelow_71 : decode b_U_setUnitBelow 71 = .ok (.invokevirtual 142, 3) := by decide +kernel
theorem d_U_setUnitBelow_74 : decode b_U_setUnitBelow 74 = .ok (.return_, 1) := by decide +kernel
theorem d_U_findUnitAbove_0 : decode b_U_findUnitAbove 0 = .ok (.aload_n 0, 1) := by decide +kernel
theorem d_U_findUnitAbove_1 : decode b_U_findUnitAbove 1 = .ok (.iload_n 1, 1) := by decide +kernel
theorem d_U_findUnitAbove_2 : decode b_U_findUnitAbove 2 = .ok (.invokevirtual 145, 3) := by decide +kernel
theorem d_U_findUnitAbove_5 : decode b_U_findUnitAbove 5 = .ok (.istore_n 2, 1) := by decide +kernel
theorem d_U_findUnitAbove_6 : decode b_U_findUnitAbove 6 = .ok (.aload_n 0, 1) := by decide +kernel
theorem d_U_findUnitAbove_7 : decode b_U_findUnitAbove 7 = .ok (.getfield 40, 3) := by decide +kernel
theorem d_U_findUnitAbove_10 : decode b_U_findUnitAbove 10 = .ok (.getfield 148, 3) := by decide +kernel
theorem d_U_findUnitAbove_13 : decode b_U_findUnitAbove 13 = .ok (.astore_n 3, 1) := by decide +kernel
theorem d_U_findUnitAbove_14 : decode b_U_findUnitAbove 14 = .ok (.aload_n 0, 1) := by decide +kernel
theorem d_U_findUnitAbove_15 : decode b_U_findUnitAbove 15 = .ok (.getfield 40, 3) := by decide +kernel
theorem d_U_findUnitAbove_18 : decode b_U_findUnitAbove 18 = .ok (.getfield 151, 3) := by decide +kernel
theorem d_U_findUnitAbove_21 : decode b_U_findUnitAbove 21 = .ok (.astore 4, 2) := by decide +kernel
theorem d_U_findUnitAbove_23 : decode b_U_findUnitAbove 23 = .ok (.iload_n 2, 1) := by decide +kernel
theorem d_U_findUnitAbove_24 : decode b_U_findUnitAbove 24 = .ok (.iconst 1, 1) := by decide +kernel
theorem d_U_findUnitAbove_25 : decode b_U_findUnitAbove 25 = .ok (.iand, 1) := by decide +kernel
theorem d_U_findUnitAbove_26 : decode b_U_findUnitAbove 26 = .ok (.iconst 1, 1) := by decide +kernel
theorem d_U_findUnitAbove_27 : decode b_U_findUnitAbove 27 = .ok (.if_icmp .ne 57, 3) := by decide +kernel
theorem d_U_findUnitAbove_30 : decode b_U_findUnitAbove 30 = .ok (.aload_n 0, 1) := by decide +kernel
theorem d_U_findUnitAbove_31 : decode b_U_findUnitAbove 31 = .ok (.iconst 2, 1) := by decide +kernel
theorem d_U_findUnitAbove_32 : decode b_U_findUnitAbove 32 = .ok (.iload_n 2, 1) := by decide +kernel
theorem d_U_findUnitAbove_33 : decode b_U_findUnitAbove 33 = .ok (.imul, 1) := by decide +kernel
theorem d_U_findUnitAbove_34 : decode b_U_findUnitAbove 34 = .ok (.putfield 67, 3) := by decide +kernel
theorem d_U_findUnitAbove_37 : decode b_U_findUnitAbove 37 = .ok (.aload_n 0, 1) := by decide +kernel
theorem d_U_findUnitAbove_38 : decode b_U_findUnitAbove 38 = .ok (.getfield 31, 3) := by decide +kernel
theorem d_U_findUnitAbove_41 : decode b_U_findUnitAbove 41 = .ok (.aload_n 3, 1) := by decide +kernel
theorem d_U_findUnitAbove_42 : decode b_U_findUnitAbove 42 = .ok (.invokevirtual 154, 3) := by decide +kernel
theorem d_U_findUnitAbove_45 : decode b_U_findUnitAbove 45 = .ok (.aload_n 0, 1) := by decide +kernel
theorem d_U_findUnitAbove_46 : decode b_U_findUnitAbove 46 = .ok (.getfield 34, 3) := by decide +kernel
theorem d_U_findUnitAbove_49 : decode b_U_findUnitAbove 49 = .ok (.aload 4, 2) := by decide +kernel
theorem d_U_findUnitAbove_51 : decode b_U_findUnitAbove 51 = .ok (.invokevirtual 154, 3) := by decide +kernel
theorem d_U_findUnitAbove_54 : decode b_U_findUnitAbove 54 = .ok (.aload_n 0, 1) := by decide +kernel
theorem d_U_findUnitAbove_55 : decode b_U_findUnitAbove 55 = .ok (.getfield 10, 3) := by decide +kernel
theorem d_U_findUnitAbove_58 : decode b_U_findUnitAbove 58 = .ok (.aload_n 3, 1) := by decide +kernel
theorem d_U_findUnitAbove_59 : decode b_U_findUnitAbove 59 = .ok (.aload_n 3, 1) := by decide +kernel
theorem d_U_findUnitAbove_60 : decode b_U_findUnitAbove 60 = .ok (.invokevirtual 158, 3) := by decide +kernel
theorem d_U_findUnitAbove_63 : decode b_U_findUnitAbove 63 = .ok (.aload_n 0, 1) := by decide +kernel
theorem d_U_findUnitAbove_64 : decode b_U_findUnitAbove 64 = .ok (.getfield 10, 3) := by decide +kernel
theorem d_U_findUnitAbove_67 : decode b_U_findUnitAbove 67 = .ok (.iconst 2, 1) := by decide +kernel
theorem d_U_findUnitAbove_68 : decode b_U_findUnitAbove 68 = .ok (.invokevirtual 162, 3) := by decide +kernel
theorem d_U_findUnitAbove_71 : decode b_U_findUnitAbove 71 = .ok (.aload_n 0, 1) := by decide +kernel
theorem d_U_findUnitAbove_72 : decode b_U_findUnitAbove 72 = .ok (.getfield 16, 3) := by decide +kernel
theorem d_U_findUnitAbove_75 : decode b_U_findUnitAbove 75 = .ok (.aload_n 3, 1) := by decide +kernel
theorem d_U_findUnitAbove_76 : decode b_U_findUnitAbove 76 = .ok (.aload 4, 2) := by decide +kernel
theorem d_U_findUnitAbove_78 : decode b_U_findUnitAbove 78 = .ok (.invokevirtual 158, 3) := by decide +kernel
theorem d_U_findUnitAbove_81 : decode b_U_findUnitAbove 81 = .ok (.goto 41, 3) := by decide +kernel
theorem d_U_findUnitAbove_84 : decode b_U_findUnitAbove 84 = .ok (.aload_n 0, 1) := by decide +kernel
theorem d_U_findUnitAbove_85 : decode b_U_findUnitAbove 85 = .ok (.iload_n 2, 1) := by decide +kernel
theorem d_U_findUnitAbove_86 : decode b_U_findUnitAbove 86 = .ok (.putfield 67, 3) := by decide +kernel
theorem d_U_findUnitAbove_89 : decode b_U_findUnitAbove 89 = .ok (.aload_n 0, 1) := by decide +kernel
theorem d_U_findUnitAbove_90 : decode b_U_findUnitAbove 90 = .ok (.getfield 31, 3) := by decide +kernel
theorem d_U_findUnitAbove_93 : decode b_U_findUnitAbove 93 = .ok (.iconst 0, 1) := by decide +kernel
theorem d_U_findUnitAbove_94 : decode b_U_findUnitAbove 94 = .ok (.invokevirtual 142, 3) := by decide +kernel
theorem d_U_findUnitAbove_97 : decode b_U_findUnitAbove 97 = .ok (.aload_n 0, 1) := by decide +kernel
theorem d_U_findUnitAbove_98 : decode b_U_findUnitAbove 98 = .ok (.getfield 34, 3) := by decide +kernel
theorem d_U_findUnitAbove_101 : decode b_U_findUnitAbove 101 = .ok (.iconst 0, 1) := by decide +kernel
theorem d_U_findUnitAbove_102 : decode b_U_findUnitAbove 102 = .ok (.invokevirtual 142, 3) := by decide +kernel
theorem d_U_findUnitAbove_105 : decode b_U_findUnitAbove 105 = .ok (.aload_n 0, 1) := by decide +kernel
theorem d_U_findUnitAbove_106 : decode b_U_findUnitAbove 106 = .ok (.getfield 10, 3) := by decide +kernel
theorem d_U_findUnitAbove_109 : decode b_U_findUnitAbove 109 = .ok (.aload_n 3, 1) := by decide +kernel
theorem d_U_findUnitAbove_110 : decode b_U_findUnitAbove 110 = .ok (.invokevirtual 154, 3) := by decide +kernel
theorem d_U_findUnitAbove_113 : decode b_U_findUnitAbove 113 = .ok (.aload_n 0, 1) := by decide +kernel
theorem d_U_findUnitAbove_114 : decode b_U_findUnitAbove 114 = .ok (.getfield 16, 3) := by decide +kernel
theorem d_U_findUnitAbove_117 : decode b_U_findUnitAbove 117 = .ok (.aload 4, 2) := by decide +kernel
theorem d_U_findUnitAbove_119 : decode b_U_findUnitAbove 119 = .ok (.invokevirtual 154, 3) := by decide +kernel
theorem d_U_findUnitAbove_122 : decode b_U_findUnitAbove 122 = .ok (.return_, 1) := by decide +kernel
theorem d_U_walkToOne_0 : decode b_U_walkToOne 0 = .ok (.iload_n 1, 1) := by decide +kernel
theorem d_U_walkToOne_1 : decode b_U_walkToOne 1 = .ok (.invokestatic 128, 3) := by decide +kernel
theorem d_U_walkToOne_4 : decode b_U_walkToOne 4 = .ok (.istore_n 2, 1) := by decide +kernel
theorem d_U_walkToOne_5 : decode b_U_walkToOne 5 = .ok (.iload_n 2, 1) := by decide +kernel
theorem d_U_walkToOne_6 : decode b_U_walkToOne 6 = .ok (.iload_n 2, 1) := by decide +kernel
theorem d_U_walkToOne_7 : decode b_U_walkToOne 7 = .ok (.iload_n 1, 1) := by decide +kernel
theorem d_U_walkToOne_8 : decode b_U_walkToOne 8 = .ok (.isub, 1) := by decide +kernel
theorem d_U_walkToOne_9 : decode b_U_walkToOne 9 = .ok (.iconst 1, 1) := by decide +kernel
theorem d_U_walkToOne_10 : decode b_U_walkToOne 10 = .ok (.iand, 1) := by decide +kernel
theorem d_U_walkToOne_11 : decode b_U_walkToOne 11 = .ok (.isub, 1) := by decide +kernel
theorem d_U_walkToOne_12 : decode b_U_walkToOne 12 = .ok (.istore_n 3, 1) := by decide +kernel
theorem d_U_walkToOne_13 : decode b_U_walkToOne 13 = .ok (.iload_n 3, 1) := by decide +kernel
theorem d_U_walkToOne_14 : decode b_U_walkToOne 14 = .ok (.istore 4, 2) := by decide +kernel
theorem d_U_walkToOne_16 : decode b_U_walkToOne 16 = .ok (.iload_n 1, 1) := by decide +kernel
theorem d_U_walkToOne_17 : decode b_U_walkToOne 17 = .ok (.iload 4, 2) := by decide +kernel
theorem d_U_walkToOne_19 : decode b_U_walkToOne 19 = .ok (.iload 4, 2) := by decide +kernel
theorem d_U_walkToOne_21 : decode b_U_walkToOne 21 = .ok (.imul, 1) := by decide +kernel
theorem d_U_walkToOne_22 : decode b_U_walkToOne 22 = .ok (.isub, 1) := by decide +kernel
theorem d_U_walkToOne_23 : decode b_U_walkToOne 23 = .ok (.iconst 4, 1) := by decide +kernel
theorem d_U_walkToOne_24 : decode b_U_walkToOne 24 = .ok (.idiv, 1) := by decide +kernel
theorem d_U_walkToOne_25 : decode b_U_walkToOne 25 = .ok (.istore 5, 2) := by decide +kernel
theorem d_U_walkToOne_27 : decode b_U_walkToOne 27 = .ok (.iconst 1, 1) := by decide +kernel
theorem d_U_walkToOne_28 : decode b_U_walkToOne 28 = .ok (.istore 6, 2) := by decide +kernel
theorem d_U_walkToOne_30 : decode b_U_walkToOne 30 = .ok (.aload_n 0, 1) := by decide +kernel
theorem d_U_walkToOne_31 : decode b_U_walkToOne 31 = .ok (.getfield 40, 3) := by decide +kernel
theorem d_U_walkToOne_34 : decode b_U_walkToOne 34 = .ok (.invokevirtual 165, 3) := by decide +kernel
theorem d_U_walkToOne_37 : decode b_U_walkToOne 37 = .ok (.iload 5, 2) := by decide +kernel
theorem d_U_walkToOne_39 : decode b_U_walkToOne 39 = .ok (.iconst 1, 1) := by decide +kernel
theorem d_U_walkToOne_40 : decode b_U_walkToOne 40 = .ok (.if_icmp .le 62, 3) := by decide +kernel
theorem d_U_walkToOne_43 : decode b_U_walkToOne 43 = .ok (.iload 6, 2) := by decide +kernel
theorem d_U_walkToOne_45 : decode b_U_walkToOne 45 = .ok (.ldc 168, 2) := by decide +kernel
theorem d_U_walkToOne_47 : decode b_U_walkToOne 47 = .ok (.if_icmp .ge 55, 3) := by decide +kernel
theorem d_U_walkToOne_50 : decode b_U_walkToOne 50 = .ok (.iload 4, 2) := by decide +kernel
theorem d_U_walkToOne_52 : decode b_U_walkToOne 52 = .ok (.iload_n 2, 1) := by decide +kernel
theorem d_U_walkToOne_53 : decode b_U_walkToOne 53 = .ok (.iadd, 1) := by decide +kernel
theorem d_U_walkToOne_54 : decode b_U_walkToOne 54 = .ok (.iconst 2, 1) := by decide +kernel
theorem d_U_walkToOne_55 : decode b_U_walkToOne 55 = .ok (.iload 5, 2) := by decide +kernel
theorem d_U_walkToOne_57 : decode b_U_walkToOne 57 = .ok (.imul, 1) := by decide +kernel
theorem d_U_walkToOne_58 : decode b_U_walkToOne 58 = .ok (.idiv, 1) := by decide +kernel
theorem d_U_walkToOne_59 : decode b_U_walkToOne 59 = .ok (.istore 7, 2) := by decide +kernel
theorem d_U_walkToOne_61 : decode b_U_walkToOne 61 = .ok (.aload_n 0, 1) := by decide +kernel
theorem d_U_walkToOne_62 : decode b_U_walkToOne 62 = .ok (.getfield 40, 3) := by decide +kernel
theorem d_U_walkToOne_65 : decode b_U_walkToOne 65 = .ok (.iload 7, 2) := by decide +kernel
theorem d_U_walkToOne_67 : decode b_U_walkToOne 67 = .ok (.invokevirtual 169, 3) := by decide +kernel
theorem d_U_walkToOne_70 : decode b_U_walkToOne 70 = .ok (.iconst 2, 1) := by decide +kernel
theorem d_U_walkToOne_71 : decode b_U_walkToOne 71 = .ok (.iload 5, 2) := by decide +kernel
theorem d_U_walkToOne_73 : decode b_U_walkToOne 73 = .ok (.imul, 1) := by decide +kernel
theorem d_U_walkToOne_74 : decode b_U_walkToOne 74 = .ok (.iload 7, 2) := by decide +kernel
theorem d_U_walkToOne_76 : decode b_U_walkToOne 76 = .ok (.imul, 1) := by decide +kernel
theorem d_U_walkToOne_77 : decode b_U_walkToOne 77 = .ok (.iload 4, 2) := by decide +kernel
theorem d_U_walkToOne_79 : decode b_U_walkToOne 79 = .ok (.isub, 1) := by decide +kernel
theorem d_U_walkToOne_80 : decode b_U_walkToOne 80 = .ok (.istore 4, 2) := by decide +kernel
theorem d_U_walkToOne_82 : decode b_U_walkToOne 82 = .ok (.iload_n 1, 1) := by decide +kernel
theorem d_U_walkToOne_83 : decode b_U_walkToOne 83 = .ok (.iload 4, 2) := by decide +kernel
theorem d_U_walkToOne_85 : decode b_U_walkToOne 85 = .ok (.iload 4, 2) := by decide +kernel
theorem d_U_walkToOne_87 : decode b_U_walkToOne 87 = .ok (.imul, 1) := by decide +kernel
theorem d_U_walkToOne_88 : decode b_U_walkToOne 88 = .ok (.isub, 1) := by decide +kernel
theorem d_U_walkToOne_89 : decode b_U_walkToOne 89 = .ok (.iconst 4, 1) := by decide +kernel
theorem d_U_walkToOne_90 : decode b_U_walkToOne 90 = .ok (.iload 5, 2) := by decide +kernel
theorem d_U_walkToOne_92 : decode b_U_walkToOne 92 = .ok (.imul, 1) := by decide +kernel
theorem d_U_walkToOne_93 : decode b_U_walkToOne 93 = .ok (.idiv, 1) := by decide +kernel
theorem d_U_walkToOne_94 : decode b_U_walkToOne 94 = .ok (.istore 5, 2) := by decide +kernel
theorem d_U_walkToOne_96 : decode b_U_walkToOne 96 = .ok (.iinc 6 1, 3) := by decide +kernel
theorem d_U_walkToOne_99 : decode b_U_walkToOne 99 = .ok (.goto (-62), 3) := by decide +kernel
theorem d_U_walkToOne_102 : decode b_U_walkToOne 102 = .ok (.aload_n 0, 1) := by decide +kernel
theorem d_U_walkToOne_103 : decode b_U_walkToOne 103 = .ok (.getfield 40, 3) := by decide +kernel
theorem d_U_walkToOne_106 : decode b_U_walkToOne 106 = .ok (.iload_n 3, 1) := by decide +kernel
theorem d_U_walkToOne_107 : decode b_U_walkToOne 107 = .ok (.invokevirtual 172, 3) := by decide +kernel
theorem d_U_walkToOne_110 : decode b_U_walkToOne 110 = .ok (.iload 6, 2) := by decide +kernel
theorem d_U_walkToOne_112 : decode b_U_walkToOne 112 = .ok (.ireturn, 1) := by decide +kernel
theorem d_U_makeAutomorph_0 : decode b_U_makeAutomorph 0 = .ok (.aload_n 0, 1) := by decide +kernel
theorem d_U_makeAutomorph_1 : decode b_U_makeAutomorph 1 = .ok (.getfield 22, 3) := by decide +kernel
theorem d_U_makeAutomorph_4 : decode b_U_makeAutomorph 4 = .ok (.aload_n 0, 1) := by decide +kernel
theorem d_U_makeAutomorph_5 : decode b_U_makeAutomorph 5 = .ok (.getfield 16, 3) := by decide +kernel
theorem d_U_makeAutomorph_8 : decode b_U_makeAutomorph 8 = .ok (.iload_n 3, 1) := by decide +kernel
theorem d_U_makeAutomorph_9 : decode b_U_makeAutomorph 9 = .ok (.ineg, 1) := by decide +kernel
theorem d_U_makeAutomorph_10 : decode b_U_makeAutomorph 10 = .ok (.invokevirtual 175, 3) := by decide +kernel
theorem d_U_makeAutomorph_13 : decode b_U_makeAutomorph 13 = .ok (.aload_n 0, 1) := by decide +kernel
theorem d_U_makeAutomorph_14 : decode b_U_makeAutomorph 14 = .ok (.getfield 25, 3) := by decide +kernel
theorem d_U_makeAutomorph_17 : decode b_U_makeAutomorph 17 = .ok (.aload_n 0, 1) := by decide +kernel
theorem d_U_makeAutomorph_18 : decode b_U_makeAutomorph 18 = .ok (.getfield 16, 3) := by decide +kernel
theorem d_U_makeAutomorph_21 : decode b_U_makeAutomorph 21 = .ok (.iload_n 1, 1) := by decide +kernel
theorem d_U_makeAutomorph_22 : decode b_U_makeAutomorph 22 = .ok (.invokevirtual 175, 3) := by decide +kernel
theorem d_U_makeAutomorph_25 : decode b_U_makeAutomorph 25 = .ok (.iload_n 2, 1) := by decide +kernel
theorem d_U_makeAutomorph_26 : decode b_U_makeAutomorph 26 = .ok (.ifCond .ge 10, 3) := by decide +kernel
theorem d_U_makeAutomorph_29 : decode b_U_makeAutomorph 29 = .ok (.aload_n 0, 1) := by decide +kernel
theorem d_U_makeAutomorph_30 : decode b_U_makeAutomorph 30 = .ok (.getfield 19, 3) := by decide +kernel
theorem d_U_makeAutomorph_33 : decode b_U_makeAutomorph 33 = .ok (.goto 7, 3) := by decide +kernel
theorem d_U_makeAutomorph_36 : decode b_U_makeAutomorph 36 = .ok (.aload_n 0, 1) := by decide +kernel
theorem d_U_makeAutomorph_37 : decode b_U_makeAutomorph 37 = .ok (.getfield 28, 3) := by decide +kernel
theorem d_U_makeAutomorph_40 : decode b_U_makeAutomorph 40 = .ok (.astore 4, 2) := by decide +kernel
theorem d_U_makeAutomorph_42 : decode b_U_makeAutomorph 42 = .ok (.iload_n 2, 1) := by decide +kernel
theorem d_U_makeAutomorph_43 : decode b_U_makeAutomorph 43 = .ok (.ifCond .ge 10, 3) := by decide +kernel
theorem d_U_makeAutomorph_46 : decode b_U_makeAutomorph 46 = .ok (.aload_n 0, 1) := by decide +kernel
theorem d_U_makeAutomorph_47 : decode b_U_makeAutomorph 47 = .ok (.getfield 28, 3) := by decide +kernel
theorem d_U_makeAutomorph_50 : decode b_U_makeAutomorph 50 = .ok (.goto 7, 3) := by decide +kernel
theorem d_U_makeAutomorph_53 : decode b_U_makeAutomorph 53 = .ok (.aload_n 0, 1) := by decide +kernel
theorem d_U_makeAutomorph_54 : decode b_U_makeAutomorph 54 = .ok (.getfield 19, 3) := by decide +kernel
theorem d_U_makeAutomorph_57 : decode b_U_makeAutomorph 57 = .ok (.astore 5, 2) := by decide +kernel
theorem d_U_makeAutomorph_59 : decode b_U_makeAutomorph 59 = .ok (.aload 4, 2) := by decide +kernel
theorem d_U_makeAutomorph_61 : decode b_U_makeAutomorph 61 = .ok (.aload_n 0, 1) := by decide +kernel
theorem d_U_makeAutomorph_62 : decode b_U_makeAutomorph 62 = .ok (.getfield 16, 3) := by decide +kernel
theorem d_U_makeAutomorph_65 : decode b_U_makeAutomorph 65 = .ok (.iload_n 2, 1) := by decide +kernel
theorem d_U_makeAutomorph_66 : decode b_U_makeAutomorph 66 = .ok (.invokestatic 133, 3) := by decide +kernel
theorem d_U_makeAutomorph_69 : decode b_U_makeAutomorph 69 = .ok (.invokevirtual 175, 3) := by decide +kernel
theorem d_U_makeAutomorph_72 : decode b_U_makeAutomorph 72 = .ok (.aload 5, 2) := by decide +kernel
theorem d_U_makeAutomorph_74 : decode b_U_makeAutomorph 74 = .ok (.aload_n 0, 1) := by decide +kernel
theorem d_U_makeAutomorph_75 : decode b_U_makeAutomorph 75 = .ok (.getfield 10, 3) := by decide +kernel
theorem d_U_makeAutomorph_78 : decode b_U_makeAutomorph 78 = .ok (.aload 4, 2) := by decide +kernel
theorem d_U_makeAutomorph_80 : decode b_U_makeAutomorph 80 = .ok (.invokevirtual 179, 3) := by decide +kernel
theorem d_U_makeAutomorph_83 : decode b_U_makeAutomorph 83 = .ok (.aload 4, 2) := by decide +kernel
theorem d_U_makeAutomorph_85 : decode b_U_makeAutomorph 85 = .ok (.aload_n 0, 1) := by decide +kernel
theorem d_U_makeAutomorph_86 : decode b_U_makeAutomorph 86 = .ok (.getfield 10, 3) := by decide +kernel
theorem d_U_makeAutomorph_89 : decode b_U_makeAutomorph 89 = .ok (.aload 4, 2) := by decide +kernel
theorem d_U_makeAutomorph_91 : decode b_U_makeAutomorph 91 = .ok (.invokevirtual 182, 3) := by decide +kernel
theorem d_U_makeAutomorph_94 : decode b_U_makeAutomorph 94 = .ok (.aload 5, 2) := by decide +kernel
theorem d_U_makeAutomorph_96 : decode b_U_makeAutomorph 96 = .ok (.invokevirtual 185, 3) := by decide +kernel
theorem d_U_makeAutomorph_99 : decode b_U_makeAutomorph 99 = .ok (.aload 4, 2) := by decide +kernel
theorem d_U_makeAutomorph_101 : decode b_U_makeAutomorph 101 = .ok (.invokevirtual 185, 3) := by decide +kernel
theorem d_U_makeAutomorph_104 : decode b_U_makeAutomorph 104 = .ok (.return_, 1) := by decide +kernel
end
section
theorem d_JM_floorMod_0 : decode b_JM_floorMod 0 = .ok (.lload_n 0, 1) := by decide +kernel
theorem d_JM_floorMod_1 : decode b_JM_floorMod 1 = .ok (.lload_n 2, 1) := by decide +kernel
theorem d_JM_floorMod_2 : decode b_JM_floorMod 2 = .ok (.lrem, 1) := by decide +kernel
theorem d_JM_floorMod_3 : decode b_JM_floorMod 3 = .ok (.lstore 4, 2) := by decide +kernel
theorem d_JM_floorMod_5 : decode b_JM_floorMod 5 = .ok (.lload_n 0, 1) := by decide +kernel
theorem d_JM_floorMod_6 : decode b_JM_floorMod 6 = .ok (.lload_n 2, 1) := by decide +kernel
theorem d_JM_floorMod_7 : decode b_JM_floorMod 7 = .ok (.lxor, 1) := by decide +kernel
theorem d_JM_floorMod_8 : decode b_JM_floorMod 8 = .ok (.lconst 0, 1) := by decide +kernel
theorem d_JM_floorMod_9 : decode b_JM_floorMod 9 = .ok (.lcmp, 1) := by decide +kernel
theorem d_JM_floorMod_10 : decode b_JM_floorMod 10 = .ok (.ifCond .ge 15, 3) := by decide +kernel
theorem d_JM_floorMod_13 : decode b_JM_floorMod 13 = .ok (.lload 4, 2) := by decide +kernel
theorem d_JM_floorMod_15 : decode b_JM_floorMod 15 = .ok (.lconst 0, 1) := by decide +kernel
theorem d_JM_floorMod_16 : decode b_JM_floorMod 16 = .ok (.lcmp, 1) := by decide +kernel
theorem d_JM_floorMod_17 : decode b_JM_floorMod 17 = .ok (.ifCond .eq 8, 3) := by decide +kernel
theorem d_JM_floorMod_20 : decode b_JM_floorMod 20 = .ok (.lload 4, 2) := by decide +kernel
theorem d_JM_floorMod_22 : decode b_JM_floorMod 22 = .ok (.lload_n 2, 1) := by decide +kernel
theorem d_JM_floorMod_23 : decode b_JM_floorMod 23 = .ok (.ladd, 1) := by decide +kernel
theorem d_JM_floorMod_24 : decode b_JM_floorMod 24 = .ok (.lreturn, 1) := by decide +kernel
theorem d_JM_floorMod_25 : decode b_JM_floorMod 25 = .ok (.lload 4, 2) := by decide +kernel
theorem d_JM_floorMod_27 : decode b_JM_floorMod 27 = .ok (.lreturn, 1) := by decide +kernel
theorem d_JI_numberOfLeadingZeros_0 : decode b_JI_numberOfLeadingZeros 0 = .ok (.iload_n 0, 1) := by decide +kernel
theorem d_JI_numberOfLeadingZeros_1 : decode b_JI_numberOfLeadingZeros 1 = .ok (.ifCond .gt 14, 3) := by decide +kernel
theorem d_JI_numberOfLeadingZeros_4 : decode b_JI_numberOfLeadingZeros 4 = .ok (.iload_n 0, 1) := by decide +kernel
theorem d_JI_numberOfLeadingZeros_5 : decode b_JI_numberOfLeadingZeros 5 = .ok (.ifCond .ne 8, 3) := by decide +kernel
theorem d_JI_numberOfLeadingZeros_8 : decode b_JI_numberOfLeadingZeros 8 = .ok (.bipush 32, 2) := by decide +kernel
theorem d_JI_numberOfLeadingZeros_10 : decode b_JI_numberOfLeadingZeros 10 = .ok (.goto 4, 3) := by decide +kernel
theorem d_JI_numberOfLeadingZeros_13 : decode b_JI_numberOfLeadingZeros 13 = .ok (.iconst 0, 1) := by decide +kernel
theorem d_JI_numberOfLeadingZeros_14 : decode b_JI_numberOfLeadingZeros 14 = .ok (.ireturn, 1) := by decide +kernel
theorem d_JI_numberOfLeadingZeros_15 : decode b_JI_numberOfLeadingZeros 15 = .ok (.bipush 31, 2) := by decide +kernel
theorem d_JI_numberOfLeadingZeros_17 : decode b_JI_numberOfLeadingZeros 17 = .ok (.istore_n 1, 1) := by decide +kernel
theorem d_JI_numberOfLeadingZeros_18 : decode b_JI_numberOfLeadingZeros 18 = .ok (.iload_n 0, 1) := by decide +kernel
theorem d_JI_numberOfLeadingZeros_19 : decode b_JI_numberOfLeadingZeros 19 = .ok (.ldc_w 264, 3) := by decide +kernel
theorem d_JI_numberOfLeadingZeros_22 : decode b_JI_numberOfLeadingZeros 22 = .ok (.if_icmp .lt 11, 3) := by decide +kernel
theorem d_JI_numberOfLeadingZeros_25 : decode b_JI_numberOfLeadingZeros 25 = .ok (.iinc 1 (-16), 3) := by decide +kernel
theorem d_JI_numberOfLeadingZeros_28 : decode b_JI_numberOfLeadingZeros 28 = .ok (.iload_n 0, 1) := by decide +kernel
theorem d_JI_numberOfLeadingZeros_29 : decode b_JI_numberOfLeadingZeros 29 = .ok (.bipush 16, 2) := by decide +kernel
theorem d_JI_numberOfLeadingZeros_31 : decode b_JI_numberOfLeadingZeros 31 = .ok (.iushr, 1) := by decide +kernel
theorem d_JI_numberOfLeadingZeros_32 : decode b_JI_numberOfLeadingZeros 32 = .ok (.istore_n 0, 1) := by decide +kernel
theorem d_JI_numberOfLeadingZeros_33 : decode b_JI_numberOfLeadingZeros 33 = .ok (.iload_n 0, 1) := by decide +kernel
theorem d_JI_numberOfLeadingZeros_34 : decode b_JI_numberOfLeadingZeros 34 = .ok (.sipush 256, 3) := by decide +kernel
theorem d_JI_numberOfLeadingZeros_37 : decode b_JI_numberOfLeadingZeros 37 = .ok (.if_icmp .lt 11, 3) := by decide +kernel
theorem d_JI_numberOfLeadingZeros_40 : decode b_JI_numberOfLeadingZeros 40 = .ok (.iinc 1 (-8), 3) := by decide +kernel
theorem d_JI_numberOfLeadingZeros_43 : decode b_JI_numberOfLeadingZeros 43 = .ok (.iload_n 0, 1) := by decide +kernel
theorem d_JI_numberOfLeadingZeros_44 : decode b_JI_numberOfLeadingZeros 44 = .ok (.bipush 8, 2) := by decide +kernel
theorem d_JI_numberOfLeadingZeros_46 : decode b_JI_numberOfLeadingZeros 46 = .ok (.iushr, 1) := by decide +kernel
theorem d_JI_numberOfLeadingZeros_47 : decode b_JI_numberOfLeadingZeros 47 = .ok (.istore_n 0, 1) := by decide +kernel
theorem d_JI_numberOfLeadingZeros_48 : decode b_JI_numberOfLeadingZeros 48 = .ok (.iload_n 0, 1) := by decide +kernel
theorem d_JI_numberOfLeadingZeros_49 : decode b_JI_numberOfLeadingZeros 49 = .ok (.bipush 16, 2) := by decide +kernel
theorem d_JI_numberOfLeadingZeros_51 : decode b_JI_numberOfLeadingZeros 51 = .ok (.if_icmp .lt 10, 3) := by decide +kernel
theorem d_JI_numberOfLeadingZeros_54 : decode b_JI_numberOfLeadingZeros 54 = .ok (.iinc 1 (-4), 3) := by decide +kernel
theorem d_JI_numberOfLeadingZeros_57 : decode b_JI_numberOfLeadingZeros 57 = .ok (.iload_n 0, 1) := by decide +kernel
theorem d_JI_numberOfLeadingZeros_58 : decode b_JI_numberOfLeadingZeros 58 = .ok (.iconst 4, 1) := by decide +kernel
theorem d_JI_numberOfLeadingZeros_59 : decode b_JI_numberOfLeadingZeros 59 = .ok (.iushr, 1) := by decide +kernel
theorem d_JI_numberOfLeadingZeros_60 : decode b_JI_numberOfLeadingZeros 60 = .ok (.istore_n 0, 1) := by decide +kernel
theorem d_JI_numberOfLeadingZeros_61 : decode b_JI_numberOfLeadingZeros 61 = .ok (.iload_n 0, 1) := by decide +kernel
theorem d_JI_numberOfLeadingZeros_62 : decode b_JI_numberOfLeadingZeros 62 = .ok (.iconst 4, 1) := by decide +kernel
theorem d_JI_numberOfLeadingZeros_63 : decode b_JI_numberOfLeadingZeros 63 = .ok (.if_icmp .lt 10, 3) := by decide +kernel
theorem d_JI_numberOfLeadingZeros_66 : decode b_JI_numberOfLeadingZeros 66 = .ok (.iinc 1 (-2), 3) := by decide +kernel
theorem d_JI_numberOfLeadingZeros_69 : decode b_JI_numberOfLeadingZeros 69 = .ok (.iload_n 0, 1) := by decide +kernel
theorem d_JI_numberOfLeadingZeros_70 : decode b_JI_numberOfLeadingZeros 70 = .ok (.iconst 2, 1) := by decide +kernel
theorem d_JI_numberOfLeadingZeros_71 : decode b_JI_numberOfLeadingZeros 71 = .ok (.iushr, 1) := by decide +kernel
theorem d_JI_numberOfLeadingZeros_72 : decode b_JI_numberOfLeadingZeros 72 = .ok (.istore_n 0, 1) := by decide +kernel
theorem d_JI_numberOfLeadingZeros_73 : decode b_JI_numberOfLeadingZeros 73 = .ok (.iload_n 1, 1) := by decide +kernel
theorem d_JI_numberOfLeadingZeros_74 : decode b_JI_numberOfLeadingZeros 74 = .ok (.iload_n 0, 1) := by decide +kernel
theorem d_JI_numberOfLeadingZeros_75 : decode b_JI_numberOfLeadingZeros 75 = .ok (.iconst 1, 1) := by decide +kernel
theorem d_JI_numberOfLeadingZeros_76 : decode b_JI_numberOfLeadingZeros 76 = .ok (.iushr, 1) := by decide +kernel
theorem d_JI_numberOfLeadingZeros_77 : decode b_JI_numberOfLeadingZeros 77 = .ok (.isub, 1) := by decide +kernel
theorem d_JI_numberOfLeadingZeros_78 : decode b_JI_numberOfLeadingZeros 78 = .ok (.ireturn, 1) := by decide +kernel
end
section
/-! MY NUMBERS: an Int32 as an unsigned word (wn), an Int64 as an unsigned number (uN, out of laws/BITS.to-paste), a row of words as a number (vl), base 2^32. -/
def uN (x : Int64) : Nat := x.toUInt64.toNat
theorem uN_lt (x : Int64) : uN x < 18446744073709551616 := x.toUInt64.toNat_lt
theorem uN_inj {x y : Int64} (h : uN x = uN y) : x = y := congrArg UInt64.toInt64 (UInt64.toNat_inj.mp h)
theorem uN_add (x y : Int64) : uN (x + y) = (uN x + uN y) % 18446744073709551616 := by
  show (x.toUInt64 + y.toUInt64).toNat = _
  exact UInt64.toNat_add _ _
theorem uN_mul (x y : Int64) : uN (x * y) = (uN x * uN y) % 18446744073709551616 := by
  show (x.toUInt64 * y.toUInt64).toNat = _
  exact UInt64.toNat_mul _ _
theorem uN_shr (x : Int64) (s : UInt64) : uN (x.toUInt64 >>> s).toInt64 = uN x / 2 ^ (s.toNat % 64) := by
  show (x.toUInt64 >>> s).toNat = _
  rw [UInt64.toNat_shiftRight, Nat.shiftRight_eq_div_pow]
  rfl
theorem uN_s32 (x : Int64) : uN (x.toUInt64 >>> ((32 : Int32).toInt64.toUInt64 &&& Int64.toUInt64 63)).toInt64 = uN x / 4294967296 := by
  have h : ((32 : Int32).toInt64.toUInt64 &&& Int64.toUInt64 63).toNat % 64 = 32 := by decide
  rw [uN_shr, h]
theorem uN_lo (x : Int64) : uN (x &&& 4294967295) = uN x % 4294967296 := by
  show (x.toUInt64 &&& Int64.toUInt64 4294967295).toNat = _
  rw [UInt64.toNat_and]
  exact Nat.and_two_pow_sub_one_eq_mod _ 32
theorem uN_int (x : Int64) : x.toInt = if 2 * uN x < 18446744073709551616 then (uN x : Int) else (uN x : Int) - 18446744073709551616 := BitVec.toInt_eq_toNat_cond _
def wn (x : Int32) : Nat := x.toUInt32.toNat
theorem wn_lt (x : Int32) : wn x < 4294967296 := x.toUInt32.toNat_lt
theorem wn_inj {x y : Int32} (h : wn x = wn y) : x = y := congrArg UInt32.toInt32 (UInt32.toNat_inj.mp h)
theorem wn_int (x : Int32) : x.toInt = if 2 * wn x < 4294967296 then (wn x : Int) else (wn x : Int) - 4294967296 := BitVec.toInt_eq_toNat_cond _
theorem wn_0 : wn 0 = 0 := rfl
theorem uN_0 : uN 0 = 0 := rfl
theorem uN_ext (x : Int32) : uN x.toInt64 % 4294967296 = wn x := by
  have h1 := uN_int x.toInt64
  have h2 := wn_int x
  rw [Jvm.Kit.i64_of_i32] at h1
  have h3 := uN_lt x.toInt64
  have h4 := wn_lt x
  split at h1 <;> split at h2 <;> omega
theorem uN_w (x : Int32) : uN (x.toInt64 &&& 4294967295) = wn x := by rw [uN_lo, uN_ext]
theorem wn_l2i (y : Int64) : wn y.toInt32 = uN y % 4294967296 := by
  have h := Int64.toInt_toInt32 y
  rw [Int.bmod_def] at h
  have h1 := uN_int y
  have h2 := wn_int y.toInt32
  have h3 := uN_lt y
  have h4 := wn_lt y.toInt32
  split at h1 <;> split at h2 <;> split at h <;> omega
theorem uN_of_nonneg {x : Int64} (h : 0 ≤ x.toInt) : (uN x : Int) = x.toInt := by
  have h1 := uN_int x
  have h3 := uN_lt x
  split at h1 <;> omega
theorem wn_of_nonneg {x : Int32} (h : 0 ≤ x.toInt) : (wn x : Int) = x.toInt := by
  have h1 := wn_int x
  have h3 := wn_lt x
  split at h1 <;> omega
theorem uN_add' {x y : Int64} (h : uN x + uN y < 18446744073709551616) : uN (x + y) = uN x + uN y := by rw [uN_add, Nat.mod_eq_of_lt h]
theorem uN_mul' {x y : Int64} (h : uN x * uN y < 18446744073709551616) : uN (x * y) = uN x * uN y := by rw [uN_mul, Nat.mod_eq_of_lt h]
/-- a row of words as a number -/
def vl (f : Nat → Int32) : Nat → Nat
  | 0 => 0
  | n + 1 => vl f n + wn (f n) * 4294967296 ^ n
theorem vl_s (f : Nat → Int32) (n : Nat) : vl f (n + 1) = vl f n + wn (f n) * 4294967296 ^ n := rfl
theorem vl_lt (f : Nat → Int32) : ∀ n, vl f n < 4294967296 ^ n := by
  intro n
  induction n with
  | zero => exact Nat.one_pos
  | succ n ih =>
    have h := wn_lt (f n)
    have h2 : (wn (f n) + 1) * 4294967296 ^ n ≤ 4294967296 * 4294967296 ^ n := Nat.mul_le_mul_right _ (by omega)
    rw [Nat.add_mul, Nat.one_mul] at h2
    rw [vl_s, Nat.pow_succ]
    omega
theorem vl_congr {f g : Nat → Int32} : ∀ {n : Nat}, (∀ j, j < n → f j = g j) → vl f n = vl g n := by
  intro n
  induction n with
  | zero => intro _; rfl
  | succ n ih =>
    intro h
    rw [vl_s, vl_s, ih (fun j hj => h j (by omega)), h n (by omega)]
theorem vl_upd {f : Nat → Int32} {k n : Nat} {x : Int32} (h : n ≤ k) : vl (upd f k x) n = vl f n := vl_congr fun j hj => pk_un (by omega)
theorem vl_upds {f : Nat → Int32} {k : Nat} {x : Int32} : vl (upd f k x) (k + 1) = vl f k + wn x * 4294967296 ^ k := by rw [vl_s, vl_upd (Nat.le_refl k), pk_us]
theorem pB (k : Nat) : 0 < 4294967296 ^ k := Nat.pow_pos (by decide)
theorem vl_hi {f : Nat → Int32} {n k : Nat} (h : n ≤ k) : vl f n / 4294967296 ^ k = 0 :=
  Nat.div_eq_of_lt (Nat.lt_of_lt_of_le (vl_lt f n) (Nat.pow_le_pow_right (by decide) h))
theorem vl_word (f : Nat → Int32) (k : Nat) : ∀ n, k < n → vl f n / 4294967296 ^ k % 4294967296 = wn (f k) := by
  intro n
  induction n with
  | zero => intro h; omega
  | succ n ih =>
    intro h
    rw [vl_s]
    rcases Nat.lt_or_ge k n with h1 | h1
    · obtain ⟨d, rfl⟩ : ∃ d, n = k + 1 + d := ⟨n - k - 1, by omega⟩
      have e : wn (f (k + 1 + d)) * 4294967296 ^ (k + 1 + d) = 4294967296 ^ k * (4294967296 * (wn (f (k + 1 + d)) * 4294967296 ^ d)) := by
        rw [Nat.pow_add, Nat.pow_succ]
        ac_rfl
      rw [e, Nat.add_mul_div_left _ _ (pB k), Nat.add_mul_mod_self_left]
      exact ih h1
    · have e : k = n := by omega
      subst e
      rw [Nat.add_mul_div_right _ _ (pB k), vl_hi (Nat.le_refl k), Nat.zero_add]
      exact Nat.mod_eq_of_lt (wn_lt _)
/-- one word of a product's row -/
theorem vl_step {V c P X S w : Nat} (c' : Nat) (h : V + c * P = S * X) (hc : c' = c + w * S) : V + (c' % 4294967296) * P + (c' / 4294967296) * (P * 4294967296) = S * (X + w * P) := by
  have e := Nat.div_add_mod c' 4294967296
  have e2 : (c' % 4294967296) * P + (c' / 4294967296) * (P * 4294967296) = c' * P := by
    conv => rhs; rw [← e]
    rw [Nat.add_mul, Nat.add_comm]
    congr 1
    ac_rfl
  rw [Nat.add_assoc, e2, hc, Nat.add_mul, ← Nat.add_assoc, h, Nat.mul_add]
  congr 1
  ac_rfl
/-- the numbers of the class hold 512 words -/
def MM : Nat := 4294967296 ^ 512
theorem MM_def : MM = 4294967296 ^ 512 := rfl
theorem MM_le {n : Nat} (h : n ≤ 512) : 4294967296 ^ n ≤ MM := Nat.pow_le_pow_right (by decide) h
theorem MM_mul {n : Nat} (h : n ≤ 512) : MM = 4294967296 ^ n * 4294967296 ^ (512 - n) := by rw [← Nat.pow_add, MM_def]; congr 1; omega
theorem vl_ltM (f : Nat → Int32) {n : Nat} (h : n ≤ 512) : vl f n < MM := Nat.lt_of_lt_of_le (vl_lt f n) (MM_le h)
theorem uN_nI {v : Nat} (h : v < 2 ^ 31) : uN (nI v).toInt64 = v := by
  have h1 : (nI v).toInt64.toInt = (v : Int) := by rw [Jvm.Kit.i64_of_i32, nI_toInt h]
  have h2 := uN_of_nonneg (x := (nI v).toInt64) (by omega)
  omega
theorem i32_rng (x : Int32) : -2147483648 ≤ x.toInt ∧ x.toInt < 2147483648 := by
  have h1 := wn_int x
  have h2 := wn_lt x
  split at h1 <;> omega
theorem i32_abs_le (x : Int32) : x.toInt.natAbs ≤ 2147483648 := by
  have := i32_rng x
  omega
theorem uN_absl (x : Int32) : uN (if 0 < x.toInt64 then x.toInt64 else -x.toInt64) = x.toInt.natAbs := by
  have hr := i32_rng x
  have he := Jvm.Kit.i64_of_i32 x
  split
  · rename_i h
    rw [Int64.lt_iff_toInt_lt, Int64.toInt_zero] at h
    have := uN_of_nonneg (x := x.toInt64) (by omega)
    omega
  · rename_i h
    rw [Int64.lt_iff_toInt_lt, Int64.toInt_zero] at h
    have h2 : (-x.toInt64).toInt = -x.toInt64.toInt := Jvm.Kit.i64_neg (by omega)
    have := uN_of_nonneg (x := -x.toInt64) (by omega)
    omega
/-- one word of a sum's row -/
theorem vl_stepA {V c P X Y a b : Nat} (c' : Nat) (h : V + c * P = X + Y) (hc : c' = c + (a + b)) : V + (c' % 4294967296) * P + (c' / 4294967296) * (P * 4294967296) = X + a * P + (Y + b * P) := by
  have e := Nat.div_add_mod c' 4294967296
  have e2 : (c' % 4294967296) * P + (c' / 4294967296) * (P * 4294967296) = c' * P := by
    conv => rhs; rw [← e]
    rw [Nat.add_mul, Nat.add_comm]
    congr 1
    ac_rfl
  rw [Nat.add_assoc, e2, hc, Nat.add_mul, Nat.add_mul]
  omega
theorem max_nI {a b : Nat} (ha : a < 2 ^ 31) (hb : b < 2 ^ 31) : (if nI a < nI b then nI b else nI a) = nI (max a b) := by
  by_cases h : a < b
  · rw [if_pos (nI_lt h hb), Nat.max_eq_right (by omega)]
  · rw [if_neg (nI_nlt (by omega) ha), Nat.max_eq_left (by omega)]
theorem min_nI {a b : Nat} (ha : a < 2 ^ 31) (hb : b < 2 ^ 31) : (if nI b < nI a then nI b else nI a) = nI (min a b) := by
  by_cases h : b < a
  · rw [if_pos (nI_lt h ha), Nat.min_eq_right (by omega)]
  · rw [if_neg (nI_nlt (by omega) hb), Nat.min_eq_left (by omega)]
theorem vl_cmp1 {A C P a c : Nat} (h1 : A < P) (h2 : C < P) (h : c < a) : ¬ A + a * P < C + c * P := by
  have h3 : (c + 1) * P ≤ a * P := Nat.mul_le_mul_right _ h
  rw [Nat.add_mul, Nat.one_mul] at h3
  omega
theorem vl_cmp2 {A C P a c : Nat} (h1 : A < P) (h : a < c) : A + a * P < C + c * P := by
  have h3 : (a + 1) * P ≤ c * P := Nat.mul_le_mul_right _ h
  rw [Nat.add_mul, Nat.one_mul] at h3
  omega
theorem vl_ge {f : Nat → Int32} {n : Nat} (h0 : 0 < n) (h : wn (f (n - 1)) ≠ 0) : 4294967296 ^ (n - 1) ≤ vl f n := by
  obtain ⟨k, rfl⟩ : ∃ k, n = k + 1 := ⟨n - 1, by omega⟩
  rw [Nat.add_sub_cancel] at h ⊢
  rw [vl_s]
  have h3 : 1 * 4294967296 ^ k ≤ wn (f k) * 4294967296 ^ k := Nat.mul_le_mul_right _ (Nat.pos_of_ne_zero h)
  omega
theorem vl_len {f g : Nat → Int32} {n r : Nat} (h : n < r) (ht : wn (g (r - 1)) ≠ 0) : vl f n < vl g r :=
  Nat.lt_of_lt_of_le (Nat.lt_of_lt_of_le (vl_lt f n) (Nat.pow_le_pow_right (by decide) (by omega))) (vl_ge (by omega) ht)
theorem wn_l2iZ (x : Int64) : (wn x.toInt32 : Int) = x.toInt % 4294967296 := by
  have h1 := uN_int x
  have h2 := uN_lt x
  rw [wn_l2i]
  split at h1 <;> omega
/-- one word of a difference's row -/
theorem vl_stepD {V X Y a b : Nat} {c : Int} {P : Nat} (t : Int) (h : (V : Int) + c * (P : Int) = (X : Int) - (Y : Int)) (ht : t = c + ((a : Int) - b)) {v : Nat} (hv : (v : Int) = t % 4294967296) :
    ((V + v * P : Nat) : Int) + t / 4294967296 * ((P * 4294967296 : Nat) : Int) = ((X + a * P : Nat) : Int) - ((Y + b * P : Nat) : Int) := by
  have e := Int.emod_add_mul_ediv t 4294967296
  have e2 : (v : Int) * P + t / 4294967296 * ((P * 4294967296 : Nat) : Int) = t * P := by
    rw [hv, Int.natCast_mul, show ((4294967296 : Nat) : Int) = 4294967296 from rfl]
    conv => rhs; rw [← e]
    rw [Int.add_mul]
    congr 1
    ac_rfl
  have e3 : t * (P : Int) = c * P + ((a : Int) * P - (b : Int) * P) := by rw [ht, Int.add_mul, Int.sub_mul]
  rw [Int.natCast_add, Int.natCast_add, Int.natCast_add, Int.natCast_mul v, Int.natCast_mul a, Int.natCast_mul b]
  omega
theorem vl_stepH {V w0 X P wq wr : Nat} (h : 2 * V + w0 = X + wq % 2 * P) : 2 * (V + (wq / 2 + wr % 2 * 2147483648) * P) + w0 = X + wq * P + wr % 2 * (P * 4294967296) := by
  have e : wq = 2 * (wq / 2) + wq % 2 := by omega
  have e1 : wq * P = 2 * (wq / 2 * P) + wq % 2 * P := by
    conv => lhs; rw [e]
    rw [Nat.add_mul, Nat.mul_assoc]
  have e2 : wr % 2 * (P * 4294967296) = 2 * (wr % 2 * 2147483648 * P) := by
    rw [Nat.mul_comm P, ← Nat.mul_assoc, ← Nat.mul_assoc]
    congr 1
    omega
  rw [Nat.add_mul]
  omega
theorem wn_halve (x y : Int32) : wn ((x.toUInt32 >>> ((1 : Int32).toUInt32 &&& Int32.toUInt32 31)).toInt32 ||| y <<< ((31 : Int32) &&& 31)) = wn x / 2 + wn y % 2 * 2147483648 := by
  have h1 : ((x.toUInt32 >>> ((1 : Int32).toUInt32 &&& Int32.toUInt32 31)).toInt32).toBitVec.toNat = wn x / 2 := pk_ushr x 1 1 (by decide)
  have h2 : (y <<< ((31 : Int32) &&& 31)).toBitVec.toNat = wn y * 2 ^ 31 % 2 ^ 32 := pk_shl y _ 31 (by decide)
  show (((x.toUInt32 >>> ((1 : Int32).toUInt32 &&& Int32.toUInt32 31)).toInt32).toBitVec ||| (y <<< ((31 : Int32) &&& 31)).toBitVec).toNat = _
  rw [BitVec.toNat_or, h1, h2, Nat.or_comm]
  have h3 : wn y * 2 ^ 31 % 2 ^ 32 = 2 ^ 31 * (wn y % 2) := by omega
  rw [h3, ← Nat.two_pow_add_eq_or_of_lt (i := 31) (by have := wn_lt x; omega) (wn y % 2)]
  omega
theorem vl_tail {f g : Nat → Int32} {q : Nat} : ∀ {n : Nat}, q ≤ n → (∀ t, q ≤ t → t < n → f t = g t) → vl f n + vl g q = vl g n + vl f q := by
  intro n
  induction n with
  | zero => intro h _; rw [Nat.le_zero.mp h]; rfl
  | succ n ih =>
    intro h hf
    rcases Nat.lt_or_ge n q with h1 | h1
    · rw [show q = n + 1 by omega]; omega
    · have := ih h1 (fun t a b => hf t a (by omega))
      rw [vl_s, vl_s, hf n h1 (by omega)]
      omega
theorem vl_zero {f : Nat → Int32} {q : Nat} : ∀ {n : Nat}, q ≤ n → (∀ t, q ≤ t → t < n → f t = 0) → vl f n = vl f q := by
  intro n
  induction n with
  | zero => intro h _; rw [Nat.le_zero.mp h]
  | succ n ih =>
    intro h hf
    rcases Nat.lt_or_ge n q with h1 | h1
    · rw [show q = n + 1 by omega]
    · rw [vl_s, hf n h1 (by omega), wn_0, Nat.zero_mul, Nat.add_zero]
      exact ih h1 (fun t a b => hf t a (by omega))
theorem Nat.add_mod_right_cancel' {a b c M : Nat} (h : a % M = b % M) : (a + c) % M = (b + c) % M := by rw [Nat.add_mod, h, ← Nat.add_mod]
/-- what lies above 512 words falls away -/
theorem mod_row {f : Nat → Int32} {V X w q r : Nat} (h : V % MM = X % MM) (hq : 512 ≤ q + r) (hq2 : q ≤ 512) : (V + w * vl f (512 - q) * 4294967296 ^ q) % MM = (X + w * vl f r * 4294967296 ^ q) % MM := by
  have key : ∀ t, (w * vl f (512 - q) * 4294967296 ^ q) % MM = (w * vl f (512 - q + t) * 4294967296 ^ q) % MM := by
    intro t
    induction t with
    | zero => rfl
    | succ t ih =>
      rw [ih, ← Nat.add_assoc, vl_s, Nat.mul_add, Nat.add_mul]
      have e : w * (wn (f (512 - q + t)) * 4294967296 ^ (512 - q + t)) * 4294967296 ^ q = MM * (w * wn (f (512 - q + t)) * 4294967296 ^ t) := by
        rw [MM_mul hq2, Nat.pow_add]
        ac_rfl
      rw [e, Nat.add_mul_mod_self_left]
  rw [Nat.add_mod, h, key (r - (512 - q)), ← Nat.add_mod, show 512 - q + (r - (512 - q)) = r by omega]
theorem neg_mod0 {v M : Nat} (h : v % M = 0) : (-(v : Int)) % (M : Int) = ((0 : Nat) : Int) := by
  have h1 : (M : Int) ∣ (v : Int) := Int.ofNat_dvd.mpr (Nat.dvd_of_mod_eq_zero h)
  exact Int.emod_eq_zero_of_dvd (Int.dvd_neg.mpr h1)
theorem neg_mod1 {v M : Nat} (h0 : 0 < M) (h : 0 < v % M) : (-(v : Int)) % (M : Int) = (M : Int) - ((v % M : Nat) : Int) := by
  have e := Nat.div_add_mod v M
  have hl := Nat.mod_lt v h0
  have e2 : (-(v : Int)) = ((M : Int) - ((v % M : Nat) : Int)) + (M : Int) * (-((v / M : Nat) : Int) - 1) := by
    have e3 : (v : Int) = (M : Int) * ((v / M : Nat) : Int) + ((v % M : Nat) : Int) := by rw [← Int.natCast_mul, ← Int.natCast_add, e]
    rw [Int.mul_sub, Int.mul_neg, Int.mul_one]
    omega
  rw [e2, Int.add_mul_emod_self_left]
  exact Int.emod_eq_of_lt (by omega) (by omega)
theorem uN_shlor {x y : Int64} {w : Nat} (hx : uN x < 2147483648) (hy : uN y = w) (hw : w < 4294967296) : uN (x <<< ((32 : Int32).toInt64 &&& 63) ||| y) = uN x * 4294967296 + w := by
  have h0 : (((32 : Int32).toInt64 &&& 63).toBitVec.smod 64).toNat = 32 := by decide
  have h1 : uN (x <<< ((32 : Int32).toInt64 &&& 63)) = uN x * 4294967296 := by
    show (x.toBitVec <<< (((32 : Int32).toInt64 &&& 63).toBitVec.smod 64).toNat).toNat = _
    rw [h0, BitVec.toNat_shiftLeft, Nat.shiftLeft_eq]
    exact Nat.mod_eq_of_lt (show uN x * 2 ^ 32 < 2 ^ 64 by omega)
  have h2 : uN (x <<< ((32 : Int32).toInt64 &&& 63) ||| y) = uN (x <<< ((32 : Int32).toInt64 &&& 63)) ||| uN y := UInt64.toNat_or _ _
  rw [h2, h1, hy, show uN x * 4294967296 = 2 ^ 32 * uN x by omega, ← Nat.two_pow_add_eq_or_of_lt (i := 32) hw (uN x)]
theorem div_word (f : Nat → Int32) {n q M : Nat} (h : q < n) : (vl f n / 4294967296 ^ (q + 1) % M * 4294967296 + wn (f q)) % M = vl f n / 4294967296 ^ q % M := by
  have e := Nat.div_add_mod (vl f n / 4294967296 ^ q) 4294967296
  rw [vl_word f q n h, Nat.div_div_eq_div_mul, ← Nat.pow_succ] at e
  rw [← e, Nat.add_mod, Nat.mod_mul_mod, ← Nat.add_mod, Nat.mul_comm]
/-- one word of a row of two products -/
theorem vl_stepL {V c P X Y p q a b : Nat} (c' : Nat) (h : V + c * P = p * X + q * Y) (hc : c' = c + (p * a + q * b)) : V + (c' % 4294967296) * P + (c' / 4294967296) * (P * 4294967296) = p * (X + a * P) + q * (Y + b * P) := by
  have h2 := vl_stepA (X := p * X) (Y := q * Y) (a := p * a) (b := q * b) c' h hc
  rw [h2, Nat.mul_add, Nat.mul_add, Nat.mul_assoc, Nat.mul_assoc]
theorem abs_nI {x : Int32} (h : x.toInt.natAbs < 2 ^ 31) : (if 0 ≤ x then x else 0 - x) = nI x.toInt.natAbs := by
  apply Int32.toInt_inj.mp
  rw [nI_toInt h]
  split
  · rename_i q
    rw [Int32.le_iff_toInt_le, Int32.toInt_zero] at q
    omega
  · rename_i q
    rw [Int32.le_iff_toInt_le, Int32.toInt_zero] at q
    have hr := i32_rng x
    rw [Jvm.Kit.i32_sub] <;> rw [Int32.toInt_zero] <;> omega
end
section
/-! THE CLASS's WORLD: one object, its recurrence, ten numbers (0..7: t u p q r s minusT minusU; 8, 9: last, before), each an object and a row of 512 words; always held whole, so that no call needs a frame. -/
abbrev BS : Type := Int32 × Int32 × (Nat → Int32)
abbrev St : Type := Int32 × Int32 × (Nat → Int64) × (Nat → BS)
abbrev ZZ : Type := va_G × (Nat → Nat) × (Nat → ClassId)
abbrev oA (z : ZZ) (i : Nat) : Nat := z.2.1 (2 + 2 * i)
abbrev rA (z : ZZ) (i : Nat) : Nat := z.2.1 (3 + 2 * i)
abbrev mA (z : ZZ) : Nat := z.2.1 0
abbrev kA (z : ZZ) : Nat := z.2.1 1
abbrev bo (z : ZZ) (g : St) (i : Nat) : Nat × va_E := (oA z i, .inr (2, [.ref (rA z i), .int (g.2.2.2 i).1, .int (g.2.2.2 i).2.1]))
abbrev bw (z : ZZ) (g : St) (i : Nat) : Nat × va_E := (rA z i, .inl (z.2.2 i, 512, .inl (g.2.2.2 i).2.2))
def uw (z : ZZ) (g : St) : va_W := [(mA z, .inr (0, [.ref (oA z 0), .ref (oA z 1), .ref (oA z 2), .ref (oA z 3), .ref (oA z 4), .ref (oA z 5), .ref (oA z 6), .ref (oA z 7), .ref (kA z), .int g.1, .int g.2.1])), (kA z, .inr (1, [.ref (oA z 8), .ref (oA z 9), .long (g.2.2.1 0), .long (g.2.2.1 1), .long (g.2.2.1 2), .long (g.2.2.1 3)])), bo z g 0, bw z g 0, bo z g 1, bw z g 1, bo z g 2, bw z g 2, bo z g 3, bw z g 3, bo z g 4, bw z g 4, bo z g 5, bw z g 5, bo z g 6, bw z g 6, bo z g 7, bw z g 7, bo z g 8, bw z g 8, bo z g 9, bw z g 9]
def zty (z : ZZ) : List (ClassId × FieldType) := [(z.2.2 0, .int), (z.2.2 1, .int), (z.2.2 2, .int), (z.2.2 3, .int), (z.2.2 4, .int), (z.2.2 5, .int), (z.2.2 6, .int), (z.2.2 7, .int), (z.2.2 8, .int), (z.2.2 9, .int)]
def zA (z : ZZ) (sz : Nat) : Nat → Prop := fun q => (∃ k, k < 22 ∧ q = z.2.1 k) ∨ sz ≤ q
theorem lt10 {i : Nat} (h : i < 10) : i = 0 ∨ i = 1 ∨ i = 2 ∨ i = 3 ∨ i = 4 ∨ i = 5 ∨ i = 6 ∨ i = 7 ∨ i = 8 ∨ i = 9 := by omega
theorem uw_o (z : ZZ) (g : St) {i : Nat} (hi : i < 10) : (uw z g)[2 + 2 * i]? = some (bo z g i) := by
  rcases lt10 hi with rfl | rfl | rfl | rfl | rfl | rfl | rfl | rfl | rfl | rfl <;> rfl
theorem uw_w (z : ZZ) (g : St) {i : Nat} (hi : i < 10) : (uw z g)[3 + 2 * i]? = some (bw z g i) := by
  rcases lt10 hi with rfl | rfl | rfl | rfl | rfl | rfl | rfl | rfl | rfl | rfl <;> rfl
theorem zty_a (z : ZZ) {i : Nat} (hi : i < 10) : (zty z)[i]? = some (z.2.2 i, .int) := by
  rcases lt10 hi with rfl | rfl | rfl | rfl | rfl | rfl | rfl | rfl | rfl | rfl <;> rfl
def sG (g : St) (i : Nat) (b : BS) : St := (g.1, g.2.1, g.2.2.1, fun j => if j = i then b else g.2.2.2 j)
def sW (g : St) (i : Nat) (f : Nat → Int32) : St := sG g i ((g.2.2.2 i).1, (g.2.2.2 i).2.1, f)
def sD (g : St) (v : Int32) : St := (v, g.2)
def sR (g : St) (v : Int32) : St := (g.1, v, g.2.2)
def sK (g : St) (k : Nat) (v : Int64) : St := (g.1, g.2.1, (fun j => if j = k then v else g.2.2.1 j), g.2.2.2)
theorem sG_s (g : St) (i : Nat) (b : BS) : (sG g i b).2.2.2 i = b := if_pos rfl
theorem sG_n (g : St) {i j : Nat} (b : BS) (h : j ≠ i) : (sG g i b).2.2.2 j = g.2.2.2 j := if_neg h
theorem sG_sG (g : St) (i : Nat) (a b : BS) : sG (sG g i a) i b = sG g i b := by
  unfold sG
  simp only [Prod.mk.injEq, true_and]
  funext j
  split <;> rfl
theorem sG_self (g : St) (i : Nat) : sG g i (g.2.2.2 i) = g := by
  unfold sG
  obtain ⟨a, b, c, d⟩ := g
  simp only [Prod.mk.injEq, true_and]
  funext j
  split
  · subst_vars; rfl
  · rfl
theorem sW_eq (g : St) (i : Nat) (f : Nat → Int32) : sW g i f = sG g i ((g.2.2.2 i).1, (g.2.2.2 i).2.1, f) := rfl
theorem sW_sW (g : St) (i : Nat) (f f2 : Nat → Int32) : sW (sW g i f) i f2 = sW g i f2 := by rw [sW_eq, sW_eq, sW_eq, sG_s, sG_sG]
theorem sW_sG (g : St) (i : Nat) (b : BS) (f : Nat → Int32) : sW (sG g i b) i f = sG g i (b.1, b.2.1, f) := by rw [sW_eq, sG_s, sG_sG]
theorem sW_self (g : St) (i : Nat) : sW g i (g.2.2.2 i).2.2 = g := sG_self g i
theorem sW_s (g : St) (i : Nat) (f : Nat → Int32) : (sW g i f).2.2.2 i = ((g.2.2.2 i).1, (g.2.2.2 i).2.1, f) := if_pos rfl
theorem sW_n (g : St) {i j : Nat} (f : Nat → Int32) (h : j ≠ i) : (sW g i f).2.2.2 j = g.2.2.2 j := if_neg h
theorem sW_8 (g : St) (f h f2 h2 : Nat → Int32) : sW (sW (sW (sW g 8 f) 9 h) 8 f2) 9 h2 = sW (sW g 8 f2) 9 h2 := by
  unfold sW sG
  simp only [Prod.mk.injEq, true_and]
  funext j
  by_cases h9 : j = 9
  · subst h9; rfl
  · by_cases h8 : j = 8
    · subst h8; rfl
    · simp only [if_neg h9, if_neg h8]
theorem uw_so (z : ZZ) (g : St) {i : Nat} (hi : i < 10) (v w : Int32) : (uw z g).set (2 + 2 * i) (oA z i, .inr (2, [.ref (rA z i), .int v, .int w])) = uw z (sG g i (v, w, (g.2.2.2 i).2.2)) := by
  rcases lt10 hi with rfl | rfl | rfl | rfl | rfl | rfl | rfl | rfl | rfl | rfl <;> rfl
theorem uw_sw (z : ZZ) (g : St) {i : Nat} (hi : i < 10) (f : Nat → Int32) : (uw z g).set (3 + 2 * i) (rA z i, .inl (z.2.2 i, 512, .inl f)) = uw z (sW g i f) := by
  rcases lt10 hi with rfl | rfl | rfl | rfl | rfl | rfl | rfl | rfl | rfl | rfl <;> rfl
def Ws (z : ZZ) (g : St) (H0 H : Heap) (locs : List Loc) (s : State) : Prop := va_P z.1 vwCl (uw z g) H ∧ va_K z.1 vwCl (zty z) s ∧ va_D (zA z H0.size) (uw z g) ∧ va_S (zA z H0.size) H0 H locs
/-- the links among nest mates -/
def zN (U : State) : Prop := va_Nw (.fieldLinkNest R_K 64 R_B "words" "[I" "UnitFinder") U ∧ va_Nw (.fieldLinkNest R_K 48 R_B "length" "I" "UnitFinder") U ∧ va_Nw (.fieldLinkNest R_U 151 R_K "last" "LUnitFinder$Big;" "UnitFinder") U ∧ va_Nw (.fieldLinkNest R_U 148 R_K "before" "LUnitFinder$Big;" "UnitFinder") U
theorem zN.warm {s U : State} (hW : s.WarmedH U.vm) (h : zN s) : zN U := ⟨va_Nw.warmF hW h.1, va_Nw.warmF hW h.2.1, va_Nw.warmF hW h.2.2.1, va_Nw.warmF hW h.2.2.2⟩
theorem zN.same {u U : State} (e : u.vm = U.vm) (h : zN u) : zN U := ⟨va_tabs rfl e h.1, va_tabs rfl e h.2.1, va_tabs rfl e h.2.2.1, va_tabs rfl e h.2.2.2⟩
def zI (z : ZZ) (g : St) (sz : Nat) (U : State) : Prop := U.heap.size = sz ∧ va_P z.1 vwCl (uw z g) U.heap ∧ va_K z.1 vwCl (zty z) U ∧ va_D (fun _ => True) (uw z g) ∧ zN U
def zO (z : ZZ) (sz : Nat) (g : St) (t : State) : Prop := va_P z.1 vwCl (uw z g) t.heap ∧ va_K z.1 vwCl (zty z) t ∧ va_D (zA z sz) (uw z g)
theorem uw_ad (z : ZZ) (g : St) {k : Nat} {q : Nat × va_E} (h : (uw z g)[k]? = some q) : k < 22 ∧ q.1 = z.2.1 k := by
  have hk : k < 22 := (List.getElem?_eq_some_iff.mp h).1
  refine ⟨hk, ?_⟩
  match k, hk, h with
  | 0, _, h => cases h; rfl
  | 1, _, h => cases h; rfl
  | 2, _, h => cases h; rfl
  | 3, _, h => cases h; rfl
  | 4, _, h => cases h; rfl
  | 5, _, h => cases h; rfl
  | 6, _, h => cases h; rfl
  | 7, _, h => cases h; rfl
  | 8, _, h => cases h; rfl
  | 9, _, h => cases h; rfl
  | 10, _, h => cases h; rfl
  | 11, _, h => cases h; rfl
  | 12, _, h => cases h; rfl
  | 13, _, h => cases h; rfl
  | 14, _, h => cases h; rfl
  | 15, _, h => cases h; rfl
  | 16, _, h => cases h; rfl
  | 17, _, h => cases h; rfl
  | 18, _, h => cases h; rfl
  | 19, _, h => cases h; rfl
  | 20, _, h => cases h; rfl
  | 21, _, h => cases h; rfl
theorem zD_self {z : ZZ} {g : St} {sz : Nat} (h : va_D (fun _ => True) (uw z g)) : va_D (zA z sz) (uw z g) :=
  ⟨h.1, fun k q hq => Or.inl ⟨k, uw_ad z g hq⟩⟩
theorem zA_le {z : ZZ} {a b q : Nat} (h : a ≤ b) (hq : zA z b q) : zA z a q := hq.elim Or.inl (fun k => Or.inr (Nat.le_trans h k))
section ZRows
variable {p : Program} {l : Launch} {e : Env} {R : Room} {s : State} {m : MethodId} {args : Array Value} {below : List Frame} {meth : Method} {c : Code} {H H0 : Heap} {locs : List Loc} {cells slots : Nat} {Q : State → Prop} {cc : ByteArray} {pc : Nat} {ls : Array Slot} {rest : List Value} {z : ZZ} {g : St}
theorem zp_L (hx : p.tables.exec = Jvm.exec) (hb : c.code = cc) (hts : ∀ w ∈ zt, w.before args s = true) {own : String} (hown : s.vm.findClass own = some m.cls) (hU : Ws z g H0 H locs s) {i : Nat} (hi : i < 10) {index : Nat} (hlink : (Cond.fieldLink own index R_B "length" "I").before args s = true) {v : Int32} (hdg : decode cc pc = .ok (.putfield index, 3))
    (kk : ∀ (H1 : Heap) (locs1 : List Loc), Ws z (sG g i (v, (g.2.2.2 i).2)) H0 H1 locs1 s → W p l e R s m args below meth c H1 locs1 cells slots Q (F0 m (pc + 3) ls rest)) : W p l e R s m args below meth c H locs cells slots Q (F0 m pc ls (.int v :: .ref (oA z i) :: rest)) := by
  refine va_put (D := z.1) (ci := 2) (v := .int v) (ty := .int) (C := R_B) (T := F_B) (N := 3) hx hb hts in_B t_B t_B_ok n_B hown hU.2.1 hU.1 hU.2.2.1 hU.2.2.2 (2 + 2 * i) (uw_o z g hi) rfl 1 (by decide) hlink (fun _ h9 => h9) rfl (by decide +kernel) rfl rfl (Nat.le_of_ble_eq_true rfl) hdg (fun H1 locs1 hP hD hS => kk H1 locs1 ?_)
  have e := uw_so z g hi v (g.2.2.2 i).2.1
  exact ⟨e ▸ hP, hU.2.1, e ▸ hD, hS⟩
theorem zp_B (hx : p.tables.exec = Jvm.exec) (hb : c.code = cc) (hts : ∀ w ∈ zt, w.before args s = true) {own : String} (hown : s.vm.findClass own = some m.cls) (hU : Ws z g H0 H locs s) {i : Nat} (hi : i < 10) {index : Nat} (hlink : (Cond.fieldLink own index R_B "below" "Z").before args s = true) {v : Int32} (hv : v = 0 ∨ v = 1) (hdg : decode cc pc = .ok (.putfield index, 3))
    (kk : ∀ (H1 : Heap) (locs1 : List Loc), Ws z (sG g i ((g.2.2.2 i).1, v, (g.2.2.2 i).2.2)) H0 H1 locs1 s → W p l e R s m args below meth c H1 locs1 cells slots Q (F0 m (pc + 3) ls rest)) : W p l e R s m args below meth c H locs cells slots Q (F0 m pc ls (.int v :: .ref (oA z i) :: rest)) := by
  refine va_put (D := z.1) (ci := 2) (v := .int v) (ty := .boolean) (C := R_B) (T := F_B) (N := 3) hx hb hts in_B t_B t_B_ok n_B hown hU.2.1 hU.1 hU.2.2.1 hU.2.2.2 (2 + 2 * i) (uw_o z g hi) rfl 2 (by decide) hlink (fun _ h9 => h9) rfl (by decide +kernel) (by rcases hv with rfl | rfl <;> rfl) (by rcases hv with rfl | rfl <;> rfl) (Nat.le_of_ble_eq_true rfl) hdg (fun H1 locs1 hP hD hS => kk H1 locs1 ?_)
  have e := uw_so z g hi (g.2.2.2 i).1 v
  exact ⟨e ▸ hP, hU.2.1, e ▸ hD, hS⟩
theorem zp_K0 (hx : p.tables.exec = Jvm.exec) (hb : c.code = cc) (hts : ∀ w ∈ zt, w.before args s = true) {own : String} (hown : s.vm.findClass own = some m.cls) (hU : Ws z g H0 H locs s) {index : Nat} (hlink : (Cond.fieldLink own index R_K "lastOfLast" "J").before args s = true) {v : Int64} (hdg : decode cc pc = .ok (.putfield index, 3))
    (kk : ∀ (H1 : Heap) (locs1 : List Loc), Ws z (sK g 0 v) H0 H1 locs1 s → W p l e R s m args below meth c H1 locs1 cells slots Q (F0 m (pc + 3) ls rest)) : W p l e R s m args below meth c H locs cells slots Q (F0 m pc ls (.long v :: .ref (kA z) :: rest)) := by
  refine va_put (D := z.1) (ci := 1) (v := .long v) (ty := .long) (C := R_K) (T := F_K) (N := 6) hx hb hts in_K t_K t_K_ok n_K hown hU.2.1 hU.1 hU.2.2.1 hU.2.2.2 1 rfl rfl 2 (by decide) hlink (fun _ h9 => h9) rfl (by decide +kernel) rfl rfl (Nat.le_of_ble_eq_true rfl) hdg (fun H1 locs1 hP hD hS => kk H1 locs1 ?_)
  exact ⟨hP, hU.2.1, hD, hS⟩
theorem zp_K1 (hx : p.tables.exec = Jvm.exec) (hb : c.code = cc) (hts : ∀ w ∈ zt, w.before args s = true) {own : String} (hown : s.vm.findClass own = some m.cls) (hU : Ws z g H0 H locs s) {index : Nat} (hlink : (Cond.fieldLink own index R_K "beforeOfLast" "J").before args s = true) {v : Int64} (hdg : decode cc pc = .ok (.putfield index, 3))
    (kk : ∀ (H1 : Heap) (locs1 : List Loc), Ws z (sK g 1 v) H0 H1 locs1 s → W p l e R s m args below meth c H1 locs1 cells slots Q (F0 m (pc + 3) ls rest)) : W p l e R s m args below meth c H locs cells slots Q (F0 m pc ls (.long v :: .ref (kA z) :: rest)) := by
  refine va_put (D := z.1) (ci := 1) (v := .long v) (ty := .long) (C := R_K) (T := F_K) (N := 6) hx hb hts in_K t_K t_K_ok n_K hown hU.2.1 hU.1 hU.2.2.1 hU.2.2.2 1 rfl rfl 3 (by decide) hlink (fun _ h9 => h9) rfl (by decide +kernel) rfl rfl (Nat.le_of_ble_eq_true rfl) hdg (fun H1 locs1 hP hD hS => kk H1 locs1 ?_)
  exact ⟨hP, hU.2.1, hD, hS⟩
theorem zp_K2 (hx : p.tables.exec = Jvm.exec) (hb : c.code = cc) (hts : ∀ w ∈ zt, w.before args s = true) {own : String} (hown : s.vm.findClass own = some m.cls) (hU : Ws z g H0 H locs s) {index : Nat} (hlink : (Cond.fieldLink own index R_K "lastOfBefore" "J").before args s = true) {v : Int64} (hdg : decode cc pc = .ok (.putfield index, 3))
    (kk : ∀ (H1 : Heap) (locs1 : List Loc), Ws z (sK g 2 v) H0 H1 locs1 s → W p l e R s m args below meth c H1 locs1 cells slots Q (F0 m (pc + 3) ls rest)) : W p l e R s m args below meth c H locs cells slots Q (F0 m pc ls (.long v :: .ref (kA z) :: rest)) := by
  refine va_put (D := z.1) (ci := 1) (v := .long v) (ty := .long) (C := R_K) (T := F_K) (N := 6) hx hb hts in_K t_K t_K_ok n_K hown hU.2.1 hU.1 hU.2.2.1 hU.2.2.2 1 rfl rfl 4 (by decide) hlink (fun _ h9 => h9) rfl (by decide +kernel) rfl rfl (Nat.le_of_ble_eq_true rfl) hdg (fun H1 locs1 hP hD hS => kk H1 locs1 ?_)
  exact ⟨hP, hU.2.1, hD, hS⟩
theorem zp_K3 (hx : p.tables.exec = Jvm.exec) (hb : c.code = cc) (hts : ∀ w ∈ zt, w.before args s = true) {own : String} (hown : s.vm.findClass own = some m.cls) (hU : Ws z g H0 H locs s) {index : Nat} (hlink : (Cond.fieldLink own index R_K "beforeOfBefore" "J").before args s = true) {v : Int64} (hdg : decode cc pc = .ok (.putfield index, 3))
    (kk : ∀ (H1 : Heap) (locs1 : List Loc), Ws z (sK g 3 v) H0 H1 locs1 s → W p l e R s m args below meth c H1 locs1 cells slots Q (F0 m (pc + 3) ls rest)) : W p l e R s m args below meth c H locs cells slots Q (F0 m pc ls (.long v :: .ref (kA z) :: rest)) := by
  refine va_put (D := z.1) (ci := 1) (v := .long v) (ty := .long) (C := R_K) (T := F_K) (N := 6) hx hb hts in_K t_K t_K_ok n_K hown hU.2.1 hU.1 hU.2.2.1 hU.2.2.2 1 rfl rfl 5 (by decide) hlink (fun _ h9 => h9) rfl (by decide +kernel) rfl rfl (Nat.le_of_ble_eq_true rfl) hdg (fun H1 locs1 hP hD hS => kk H1 locs1 ?_)
  exact ⟨hP, hU.2.1, hD, hS⟩
theorem zp_D (hx : p.tables.exec = Jvm.exec) (hb : c.code = cc) (hts : ∀ w ∈ zt, w.before args s = true) {own : String} (hown : s.vm.findClass own = some m.cls) (hU : Ws z g H0 H locs s) {index : Nat} (hlink : (Cond.fieldLink own index R_U "discriminant" "I").before args s = true) {v : Int32} (hdg : decode cc pc = .ok (.putfield index, 3))
    (kk : ∀ (H1 : Heap) (locs1 : List Loc), Ws z (sD g v) H0 H1 locs1 s → W p l e R s m args below meth c H1 locs1 cells slots Q (F0 m (pc + 3) ls rest)) : W p l e R s m args below meth c H locs cells slots Q (F0 m pc ls (.int v :: .ref (mA z) :: rest)) := by
  refine va_put (D := z.1) (ci := 0) (v := .int v) (ty := .int) (C := R_U) (T := F_U) (N := 11) hx hb hts in_U t_U t_U_ok n_U hown hU.2.1 hU.1 hU.2.2.1 hU.2.2.2 0 rfl rfl 9 (by decide) hlink (fun _ h9 => h9) rfl (by decide +kernel) rfl rfl (Nat.le_of_ble_eq_true rfl) hdg (fun H1 locs1 hP hD hS => kk H1 locs1 ?_)
  exact ⟨hP, hU.2.1, hD, hS⟩
theorem zp_R (hx : p.tables.exec = Jvm.exec) (hb : c.code = cc) (hts : ∀ w ∈ zt, w.before args s = true) {own : String} (hown : s.vm.findClass own = some m.cls) (hU : Ws z g H0 H locs s) {index : Nat} (hlink : (Cond.fieldLink own index R_U "ringLength" "I").before args s = true) {v : Int32} (hdg : decode cc pc = .ok (.putfield index, 3))
    (kk : ∀ (H1 : Heap) (locs1 : List Loc), Ws z (sR g v) H0 H1 locs1 s → W p l e R s m args below meth c H1 locs1 cells slots Q (F0 m (pc + 3) ls rest)) : W p l e R s m args below meth c H locs cells slots Q (F0 m pc ls (.int v :: .ref (mA z) :: rest)) := by
  refine va_put (D := z.1) (ci := 0) (v := .int v) (ty := .int) (C := R_U) (T := F_U) (N := 11) hx hb hts in_U t_U t_U_ok n_U hown hU.2.1 hU.1 hU.2.2.1 hU.2.2.2 0 rfl rfl 10 (by decide) hlink (fun _ h9 => h9) rfl (by decide +kernel) rfl rfl (Nat.le_of_ble_eq_true rfl) hdg (fun H1 locs1 hP hD hS => kk H1 locs1 ?_)
  exact ⟨hP, hU.2.1, hD, hS⟩
theorem z_iast (hx : p.tables.exec = Jvm.exec) (hb : c.code = cc) (hU : Ws z g H0 H locs s) {i : Nat} (hi : i < 10) {ix v : Int32} (hin : vp_in ix 512) (hdg : decode cc pc = .ok (.iastore, 1))
    (kk : ∀ (H1 : Heap) (locs1 : List Loc), Ws z (sW g i (upd (g.2.2.2 i).2.2 ix.toNatClampNeg v)) H0 H1 locs1 s → W p l e R s m args below meth c H1 locs1 cells slots Q (F0 m (pc + 1) ls rest)) : W p l e R s m args below meth c H locs cells slots Q (F0 m pc ls (.int v :: .int ix :: .ref (rA z i) :: rest)) := by
  refine va_iast hx hb hU.2.1 hU.1 hU.2.2.1 hU.2.2.2 (3 + 2 * i) i (uw_w z g hi) (zty_a z hi) hin hdg (fun H1 locs1 hP hD hS => kk H1 locs1 ?_)
  have e := uw_sw z g hi (upd (g.2.2.2 i).2.2 ix.toNatClampNeg v)
  exact ⟨e ▸ hP, hU.2.1, e ▸ hD, hS⟩
theorem z_vret {post : St → Prop} {sz : Nat} (hx : p.tables.exec = Jvm.exec) (hb : c.code = cc) (hr : meth.sig.returnType = none) (hlocks : meth.locks = false) (hsz : s.heap.size = sz) (hU : Ws z g s.heap H locs s) (hp : post g) (hdg : decode cc pc = .ok (.return_, 1)) :
    W p l e R s m args below meth c H locs 0 0 (MQ below (va_Qv post (zO z sz) (zA z sz)) args s 0 0 (zA z sz)) (F0 m pc ls []) := by
  subst hsz
  exact W.vret hx hb hr (fun t ht hW => ⟨⟨g, rfl, hp, by rw [ht]; exact hU.1, va_K.moved hW.alike hU.2.1, hU.2.2.1⟩, hU.2.2.2.F ht⟩) hU.2.2.2.2.2 hdg
theorem z_iret {post : Int32 → St → Prop} {sz : Nat} {v : Int32} (hx : p.tables.exec = Jvm.exec) (hb : c.code = cc) (hr : meth.sig.returnType = some .int) (hlocks : meth.locks = false) (hsz : s.heap.size = sz) (hU : Ws z g s.heap H locs s) (hp : post v g) (hdg : decode cc pc = .ok (.ireturn, 1)) :
    W p l e R s m args below meth c H locs 0 0 (MQ below (va_Qi post (zO z sz) (zA z sz)) args s 0 0 (zA z sz)) (F0 m pc ls [.int v]) := by
  subst hsz
  exact W.iret hx hb hr (fun t ht hW => ⟨⟨v, g, rfl, hp, by rw [ht]; exact hU.1, va_K.moved hW.alike hU.2.1, hU.2.2.1⟩, hU.2.2.2.F ht⟩) hU.2.2.2.2.2 hdg
theorem z_zret {post : Int32 → St → Prop} {sz : Nat} {v : Int32} (hx : p.tables.exec = Jvm.exec) (hb : c.code = cc) (hr : meth.sig.returnType = some .boolean) (hlocks : meth.locks = false) (hsz : s.heap.size = sz) (hU : Ws z g s.heap H locs s) (hv : v = 0 ∨ v = 1) (hp : post v g) (hdg : decode cc pc = .ok (.ireturn, 1)) :
    W p l e R s m args below meth c H locs 0 0 (MQ below (va_Qi post (zO z sz) (zA z sz)) args s 0 0 (zA z sz)) (F0 m pc ls [.int v]) := by
  subst hsz
  exact W.zret hx hb hr (by rcases hv with rfl | rfl <;> rfl) (fun t ht hW => ⟨⟨v, g, rfl, hp, by rw [ht]; exact hU.1, va_K.moved hW.alike hU.2.1, hU.2.2.1⟩, hU.2.2.2.F ht⟩) hU.2.2.2.2.2 hdg
theorem z_lret {post : Int64 → St → Prop} {sz : Nat} {v : Int64} (hx : p.tables.exec = Jvm.exec) (hb : c.code = cc) (hr : meth.sig.returnType = some .long) (hlocks : meth.locks = false) (hsz : s.heap.size = sz) (hU : Ws z g s.heap H locs s) (hp : post v g) (hdg : decode cc pc = .ok (.lreturn, 1)) :
    W p l e R s m args below meth c H locs 0 0 (MQ below (va_Ql post (zO z sz) (zA z sz)) args s 0 0 (zA z sz)) (F0 m pc ls [.long v]) := by
  subst hsz
  exact W.lret hx hb hr (fun t ht hW => ⟨⟨v, g, rfl, hp, by rw [ht]; exact hU.1, va_K.moved hW.alike hU.2.1, hU.2.2.1⟩, hU.2.2.2.F ht⟩) hU.2.2.2.2.2 hdg
end ZRows
abbrev zw (y : MethodName) (b : ByteArray) (n : Nat) (r : Option FieldType) : List Cond := Cond.code y b n r :: zt
theorem z_ofW {l : Launch} {y : MethodName} {cc : ByteArray} {maxL : Nat} {ret : Option FieldType} {rm : Room} {z : ZZ} {g : St} {sz : Nat} {vs : List Value} {Qc : Array Value → State → Outcome → State → Prop} (hy : plainName y.cls = true) (hlen : (lg_sl vs).length ≤ maxL)
    (body : ∀ (p : Program) (e : Env) (s : State) (m : MethodId) (below : List Frame) (meth : Method) (c : Code), p.tables.exec = Jvm.exec → c.code = cc → meth.sig.returnType = ret → c.maxLocals = maxL → s.vm.findClass y.cls = some m.cls → (∀ w ∈ zt, w.before vs.toArray s = true) → meth.locks = false → meth.name = y.name → s.heap.size = sz → zN s →
      ∀ ls, Ws z g s.heap s.heap [] s → lv_has ls maxL (lv_args 0 vs) → W p l e rm s m vs.toArray below meth c s.heap [] 0 0 (MQ below Qc vs.toArray s 0 0 (zA z sz)) (F0 m 0 ls [])) :
    Met l y (zw y cc maxL ret) rm (va_Pc vs (zI z g sz)) Qc 0 0 (zA z sz) := by
  refine Met.ofW (cc := cc) (maxL := maxL) (ret := ret) hy rfl ?_
  intro p e s m args below meth c s₁ B hml hv
  obtain ⟨rfl, hsz, hP, hK, hD0, hN⟩ := hv
  have hts := atoms_spec (ws := zw y cc maxL ret) B.pre
  have hown : s.vm.findClass y.cls = some m.cls := findClass_of_methodNamed B.named
  have hl := lv_entry vs (n := maxL) hlen
  rw [lg_entry_eq]
  exact body p e s m below meth c B.exec B.bytes B.returns hml hown (fun w hw => hts w (List.mem_cons_of_mem _ hw)) B.notSynchronized (name_of_methodNamed B.named B.method).1 hsz hN _ ⟨hP, hK, zD_self hD0, va_S.rf⟩ hl
end
section
/-! CALLS IN THE CLASS's WORLD -/
theorem z_blind {z : ZZ} {g : St} {sz : Nat} {vs : List Value} : FrameBlind (va_Pc vs (zI z g sz)) := fun a U gg mk q => by
  obtain ⟨q0, q1, qP, qK, qD, qN⟩ := q
  exact ⟨q0, q1, qP, va_K.moved (u := U) (U := U.calling gg mk a) (Vm.Alike.refl U.vm) qK, qD, zN.same rfl qN⟩
theorem z_pre {z : ZZ} {g : St} {H0 H : Heap} {locs : List Loc} {s : State} {vs : List Value} (hU : Ws z g H0 H locs s) (hN : zN s) : ∀ U : State, U.heap = H → s.WarmedH U.vm → va_Pc vs (zI z g H.size) vs.toArray U :=
  fun U hH hW => ⟨rfl, by rw [hH], by rw [hH]; exact hU.1, va_K.moved hW.alike hU.2.1, ⟨hU.2.2.1.1, fun _ _ _ => trivial⟩, hN.warm hW⟩
theorem z_recvB {z : ZZ} {g : St} {H0 H : Heap} {locs : List Loc} {s : State} (hU : Ws z g H0 H locs s) {i : Nat} (hi : i < 10) : ∃ cell : Cell, H[oA z i]? = some cell ∧ cell.vm.isStatics = false ∧ s.vm.findClass R_B = some cell.cls := va_recv (ci := 2) (q0 := 2 + 2 * i) hU.2.1 hU.1 rfl (uw_o z g hi)
theorem z_recvK {z : ZZ} {g : St} {H0 H : Heap} {locs : List Loc} {s : State} (hU : Ws z g H0 H locs s) : ∃ cell : Cell, H[kA z]? = some cell ∧ cell.vm.isStatics = false ∧ s.vm.findClass R_K = some cell.cls := va_recv (ci := 1) (q0 := 1) hU.2.1 hU.1 rfl rfl
theorem z_recvM {z : ZZ} {g : St} {H0 H : Heap} {locs : List Loc} {s : State} (hU : Ws z g H0 H locs s) : ∃ cell : Cell, H[mA z]? = some cell ∧ cell.vm.isStatics = false ∧ s.vm.findClass R_U = some cell.cls := va_recv (ci := 0) (q0 := 0) hU.2.1 hU.1 rfl rfl
section ZCalls
variable {p : Program} {l : Launch} {e : Env} {R : Room} {s : State} {m : MethodId} {args : Array Value} {below : List Frame} {meth : Method} {c : Code} {H H0 : Heap} {locs : List Loc} {cells slots : Nat} {Q : State → Prop} {cc : ByteArray} {pc : Nat} {ls : Array Slot} {st0 rest : List Value} {z : ZZ} {g : St} {a : Array Value}
theorem z_run {own C : String} {index maxL n nL : Nat} {y : MethodName} {bytes : ByteArray} {ret : Option FieldType} {rm : Room} {Qc : Array Value → State → Outcome → State → Prop} {b : Addr} {As : List Value} (hx : p.tables.exec = Jvm.exec) (hb : c.code = cc) (hml : c.maxLocals = nL) (hown : s.vm.findClass own = some m.cls) (hts : ∀ w ∈ zt, w.before args s = true) (hU : Ws z g H0 H locs s) (hN : zN s)
    (hM : Met l y (zw y bytes maxL ret) rm (va_Pc (.ref b :: As) (zI z g H.size)) Qc 0 0 (zA z H.size)) (cw : CallW R s args own C index y bytes maxL ret (zw y bytes maxL ret) rm 0 0 n) (hv : ∃ cell : Cell, H[b]? = some cell ∧ cell.vm.isStatics = false ∧ s.vm.findClass C = some cell.cls)
    (hn : As.length = n) (hsize : ls.size = nL) (hst : st0 = As.reverse ++ .ref b :: rest) (hW : 2 * (F0 m pc ls st0).monitorRoom + (rest.map fun v => v.category).sum ≤ 8) (hdg : decode cc pc = .ok (.invokevirtual index, 3)) (hf : cells + 0 ≤ R.cells ∧ slots + 0 ≤ R.slots) :
    va_Run p l e R s m args below meth c H locs cells slots 0 0 (F0 m pc ls st0) rest (Qc (Value.ref b :: As).toArray) (zA z H.size) :=
  va_runV ⟨hx, hb, hml, hown, hts⟩ hM cw ⟨z_blind, hv, z_pre hU hN⟩ rfl hn hsize hst hW hdg hf
theorem z_callv {post : St → Prop} (hr : va_Run p l e R s m args below meth c H locs cells slots 0 0 (F0 m pc ls st0) rest (va_Qv post (zO z H.size) (zA z H.size) a) (zA z H.size)) (hU : Ws z g H0 H locs s)
    (kk : ∀ (g' : St) (H1 : Heap) (locs1 : List Loc), post g' → Ws z g' H0 H1 locs1 s → W p l e R s m args below meth c H1 locs1 cells slots Q (F0 m (pc + 3) ls rest)) : W p l e R s m args below meth c H locs cells slots Q (F0 m pc ls st0) := by
  have hle := hU.2.2.2.1
  refine va_callv hr hU.2.2.2 (fun q _ h => zA_le hle h) (fun q h => zA_le hle h) (fun u t H1 locs1 ht hvm hw hB hz1 hk1 hS => ?_)
  obtain ⟨hP1, hK1, hD1⟩ := hB
  rw [ht] at hP1
  exact kk u H1 locs1 hw ⟨hP1, va_K.moved hvm.symm hK1, ⟨hD1.1, fun k q h => zA_le hle (hD1.2 k q h)⟩, hS⟩
theorem z_calli {post : Int32 → St → Prop} (hr : va_Run p l e R s m args below meth c H locs cells slots 0 0 (F0 m pc ls st0) rest (va_Qi post (zO z H.size) (zA z H.size) a) (zA z H.size)) (hU : Ws z g H0 H locs s)
    (kk : ∀ (r : Int32) (g' : St) (H1 : Heap) (locs1 : List Loc), post r g' → Ws z g' H0 H1 locs1 s → W p l e R s m args below meth c H1 locs1 cells slots Q (F0 m (pc + 3) ls (.int r :: rest))) : W p l e R s m args below meth c H locs cells slots Q (F0 m pc ls st0) := by
  have hle := hU.2.2.2.1
  refine va_calli hr hU.2.2.2 (fun q _ h => zA_le hle h) (fun q h => zA_le hle h) (fun r u t H1 locs1 ht hvm hw hB hz1 hk1 hS => ?_)
  obtain ⟨hP1, hK1, hD1⟩ := hB
  rw [ht] at hP1
  exact kk r u H1 locs1 hw ⟨hP1, va_K.moved hvm.symm hK1, ⟨hD1.1, fun k q h => zA_le hle (hD1.2 k q h)⟩, hS⟩
theorem z_calll {post : Int64 → St → Prop} (hr : va_Run p l e R s m args below meth c H locs cells slots 0 0 (F0 m pc ls st0) rest (va_Ql post (zO z H.size) (zA z H.size) a) (zA z H.size)) (hU : Ws z g H0 H locs s)
    (kk : ∀ (r : Int64) (g' : St) (H1 : Heap) (locs1 : List Loc), post r g' → Ws z g' H0 H1 locs1 s → W p l e R s m args below meth c H1 locs1 cells slots Q (F0 m (pc + 3) ls (.long r :: rest))) : W p l e R s m args below meth c H locs cells slots Q (F0 m pc ls st0) := by
  have hle := hU.2.2.2.1
  refine va_calll hr hU.2.2.2 (fun q _ h => zA_le hle h) (fun q h => zA_le hle h) (fun r u t H1 locs1 ht hvm hw hB hz1 hk1 hS => ?_)
  obtain ⟨hP1, hK1, hD1⟩ := hB
  rw [ht] at hP1
  exact kk r u H1 locs1 hw ⟨hP1, va_K.moved hvm.symm hK1, ⟨hD1.1, fun k q h => zA_le hle (hD1.2 k q h)⟩, hS⟩
end ZCalls
end
section
/-! STATIC METHODS THAT READ AND WRITE NOTHING: any heap, any world -/
def prQ (v : Value) : Array Value → State → Outcome → State → Prop := fun _ st o t => o = .returned (some v) ∧ t.heap = st.heap
theorem pr_ofW {l : Launch} {y : MethodName} {cc : ByteArray} {maxL : Nat} {ret : Option FieldType} {rm : Room} {vs : List Value} {v : Value} (hy : plainFor y = true) (hlen : (lg_sl vs).length ≤ maxL)
    (body : ∀ (p : Program) (e : Env) (s : State) (m : MethodId) (below : List Frame) (meth : Method) (c : Code), p.tables.exec = Jvm.exec → c.code = cc → meth.sig.returnType = ret → c.maxLocals = maxL → s.vm.findClass y.cls = some m.cls → (∀ w ∈ zt, w.before vs.toArray s = true) → meth.locks = false →
      ∀ ls, lv_has ls maxL (lv_args 0 vs) → W p l e rm s m vs.toArray below meth c s.heap [] 0 0 (MQ below (prQ v) vs.toArray s 0 0 (fun _ => False)) (F0 m 0 ls [])) :
    Met l y (zw y cc maxL ret) rm (va_Pc vs (fun _ => True)) (prQ v) 0 0 (fun _ => False) := by
  refine va_MetF (cc := cc) (maxL := maxL) (ret := ret) hy rfl ?_
  intro p e s m args below meth c s₁ B hml hv
  obtain ⟨rfl, -⟩ := hv
  have hts := atoms_spec (ws := zw y cc maxL ret) B.pre
  have hown : s.vm.findClass y.cls = some m.cls := findClass_of_methodNamed B.named
  have hl := lv_entry vs (n := maxL) hlen
  rw [lg_entry_eq]
  exact body p e s m below meth c B.exec B.bytes B.returns hml hown (fun w hw => hts w (List.mem_cons_of_mem _ hw)) B.notSynchronized _ hl
section PRows
variable {p : Program} {l : Launch} {e : Env} {R : Room} {s : State} {m : MethodId} {args : Array Value} {below : List Frame} {meth : Method} {c : Code} {H : Heap} {locs : List Loc} {cells slots : Nat} {Q : State → Prop} {cc : ByteArray} {pc : Nat} {ls : Array Slot} {st0 rest : List Value}
theorem pr_iret {v : Int32} (hx : p.tables.exec = Jvm.exec) (hb : c.code = cc) (hr : meth.sig.returnType = some .int) (hlocks : meth.locks = false) {v' : Int32} (hv : v' = v) (hdg : decode cc pc = .ok (.ireturn, 1)) :
    W p l e R s m args below meth c s.heap [] 0 0 (MQ below (prQ (.int v)) args s 0 0 (fun _ => False)) (F0 m pc ls [.int v']) := by
  subst hv
  exact W.iret hx hb hr (fun t ht hW => ⟨rfl, ht⟩) (fun q h => absurd h List.not_mem_nil) hdg
theorem pr_zret {v : Int32} (hx : p.tables.exec = Jvm.exec) (hb : c.code = cc) (hr : meth.sig.returnType = some .boolean) (hlocks : meth.locks = false) (h01 : v = 0 ∨ v = 1) {v' : Int32} (hv : v' = v) (hdg : decode cc pc = .ok (.ireturn, 1)) :
    W p l e R s m args below meth c s.heap [] 0 0 (MQ below (prQ (.int v)) args s 0 0 (fun _ => False)) (F0 m pc ls [.int v']) := by
  subst hv
  exact W.zret hx hb hr (by rcases h01 with rfl | rfl <;> rfl) (fun t ht hW => ⟨rfl, ht⟩) (fun q h => absurd h List.not_mem_nil) hdg
theorem pr_lret {v : Int64} (hx : p.tables.exec = Jvm.exec) (hb : c.code = cc) (hr : meth.sig.returnType = some .long) (hlocks : meth.locks = false) {v' : Int64} (hv : v' = v) (hdg : decode cc pc = .ok (.lreturn, 1)) :
    W p l e R s m args below meth c s.heap [] 0 0 (MQ below (prQ (.long v)) args s 0 0 (fun _ => False)) (F0 m pc ls [.long v']) := by
  subst hv
  exact W.lret hx hb hr (fun t ht hW => ⟨rfl, ht⟩) (fun q h => absurd h List.not_mem_nil) hdg
theorem pr_call {own : String} {index maxL n nL : Nat} {y : MethodName} {bytes : ByteArray} {ret : Option FieldType} {rm : Room} {As : List Value} {v : Value} (hx : p.tables.exec = Jvm.exec) (hb : c.code = cc) (hml : c.maxLocals = nL) (hown : s.vm.findClass own = some m.cls) (hts : ∀ w ∈ zt, w.before args s = true)
    (hM : Met l y (zw y bytes maxL ret) rm (va_Pc As (fun _ => True)) (prQ v) 0 0 (fun _ => False)) (cw : CallB R s args own index y bytes maxL ret (zw y bytes maxL ret) rm 0 0 n ∧ (Cond.static y).before args s = true)
    (hn : As.length = n) (hsize : ls.size = nL) (hst : st0 = As.reverse ++ rest) (hW : 2 * (F0 m pc ls st0).monitorRoom + (rest.map fun v => v.category).sum ≤ 8) (hdg : decode cc pc = .ok (.invokestatic index, 3)) (hf : cells + 0 ≤ R.cells ∧ slots + 0 ≤ R.slots)
    (kk : W p l e R s m args below meth c H locs cells slots Q (F0 m (pc + 3) ls (v :: rest))) : W p l e R s m args below meth c H locs cells slots Q (F0 m pc ls st0) := by
  have hr : va_Run p l e R s m args below meth c H locs cells slots 0 0 (F0 m pc ls st0) rest (prQ v As.toArray) (fun _ => False) := va_runS ⟨hx, hb, hml, hown, hts⟩ hM cw ⟨fun a U gg mk q => q, fun U _ _ => ⟨rfl, trivial⟩⟩ rfl hn hsize hst hW hdg hf
  intro T hT X
  obtain ⟨v9, st₀, t, T', L, h0, X', hL, e1, e2, ⟨hv, hh⟩, st⟩ := hr T hT X
  have hv9 : v9 = some v := by cases hv; rfl
  subst hv9
  have hL0 : L = [] := by
    cases L with
    | nil => rfl
    | cons q L => exact absurd (hL q List.mem_cons_self) (fun h => h)
  subst hL0
  rw [List.append_nil] at X'
  obtain ⟨t2, a1, b1⟩ := kk T' (by rw [e1, hh, h0]) X'
  exact ⟨t2, st _ a1, b1⟩
end PRows
end
section
/-! UnitFinder's static methods -/
/-- the greatest number whose square isn't above d, bit by bit -/
def rtL (d : Int) : Nat → Nat → Nat
  | 0, r => r
  | k + 1, r => rtL d k (if ((r + 2 ^ k) * (r + 2 ^ k) : Nat) ≤ d then r + 2 ^ k else r)
def rt (d : Int) : Nat := rtL d 11 0
theorem rtL_spec {d : Int} (hd : 0 ≤ d) : ∀ (k r : Nat), ((r * r : Nat) : Int) ≤ d → d < (((r + 2 ^ k) * (r + 2 ^ k) : Nat) : Int) → ((rtL d k r * rtL d k r : Nat) : Int) ≤ d ∧ d < (((rtL d k r + 1) * (rtL d k r + 1) : Nat) : Int) := by
  intro k
  induction k with
  | zero => intro r h1 h2; exact ⟨h1, h2⟩
  | succ k ih =>
    intro r h1 h2
    rw [rtL]
    split
    · rename_i h
      refine ih _ h ?_
      rw [show r + 2 ^ k + 2 ^ k = r + 2 ^ (k + 1) by rw [Nat.pow_succ]; omega]
      exact h2
    · rename_i h
      exact ih r h1 (by omega)
theorem rt_spec {d : Int} (h0 : 0 ≤ d) (h1 : d ≤ 1048576) : ((rt d * rt d : Nat) : Int) ≤ d ∧ d < (((rt d + 1) * (rt d + 1) : Nat) : Int) := rtL_spec h0 11 0 (by simpa using h0) (by simp; omega)
theorem rtL_neg {d : Int} (h : d < 0) : ∀ (k r : Nat), rtL d k r = r := by
  intro k
  induction k with
  | zero => intro r; rfl
  | succ k ih => intro r; rw [rtL, if_neg (by omega)]; exact ih r
theorem rt_neg {d : Int} (h : d < 0) : rt d = 0 := rtL_neg h 11 0
theorem rtL_le (d : Int) : ∀ (k r : Nat), rtL d k r < r + 2 ^ k := by
  intro k
  induction k with
  | zero => intro r; show r < r + 1; omega
  | succ k ih =>
    intro r
    rw [rtL]
    have h2 : 2 ^ (k + 1) = 2 ^ k + 2 ^ k := by rw [Nat.pow_succ]; omega
    split
    · have := ih (r + 2 ^ k); omega
    · have := ih r; have := Nat.two_pow_pos k; omega
set_option maxHeartbeats 4000000 in
set_option maxRecDepth 100000 in
theorem c_rootOf (l : Launch) (d : Int32) : Met l y_U_rootOf (zw y_U_rootOf b_U_rootOf 4 (some .int)) { frames := 0, cells := 0, slots := 0, locals := 0 } (va_Pc [.int d] (fun _ => True)) (prQ (.int (nI (rt d.toInt)))) 0 0 (fun _ => False) := by
  refine pr_ofW (by decide) (Nat.le_of_ble_eq_true rfl) (fun p e s m below meth c hx hb hr hml hown hts hlocks ls hl => ?_)
  have hl : lv_has ls 4 [(0, .int d)] := hl
  have K : ∀ (k r : Nat) (x3 : List (Nat × Value)) (ls : Array Slot), k ≤ 11 → r + 2 ^ k ≤ 2048 → rtL d.toInt k r = rt d.toInt → lv_has ls 4 [(0, .int d), (1, .int (nI r)), (2, .int (nI (2 ^ k / 2)))] → W p l e ({ frames := 0, cells := 0, slots := 0, locals := 0 } : Room) s m ([.int d] : List Value).toArray below meth c s.heap [] 0 0 (MQ below (prQ (.int (nI (rt d.toInt)))) ([.int d] : List Value).toArray s 0 0 (fun _ => False)) (F0 m 6 ls []) := by
    intro k
    induction k with
    | zero =>
      intro r _ ls hk hr2 hv hl
      refine lv_iload_n hx hb d_U_rootOf_6 rfl (lv_at hl 2 rfl) ?_
      refine lv_if_le (tgt := 30) hx hb d_U_rootOf_7 (by decide) (fun c7 => ?_) (fun c7 => ?_)
      · refine lv_iload_n hx hb d_U_rootOf_30 rfl (lv_at hl 1 rfl) ?_
        exact pr_iret hx hb hr hlocks (congrArg nI hv) d_U_rootOf_31
      · exact absurd (by decide) c7
    | succ k ih =>
      intro r _ ls hk hr2 hv hl
      have hp : 2 ^ (k + 1) / 2 = 2 ^ k := by rw [Nat.pow_succ]; omega
      have hp1 : 2 ^ (k + 1) = 2 ^ k + 2 ^ k := by rw [Nat.pow_succ]; omega
      have hp0 : 0 < 2 ^ k := Nat.two_pow_pos k
      rw [hp] at hl
      refine lv_iload_n hx hb d_U_rootOf_6 rfl (lv_at hl 2 rfl) ?_
      refine lv_if_le (tgt := 30) hx hb d_U_rootOf_7 (by decide) (fun c7 => ?_) (fun c7 => ?_)
      · exact absurd c7 (nI_nle hp0 (by omega))
      · refine lv_iload_n hx hb d_U_rootOf_10 rfl (lv_at hl 1 rfl) ?_
        refine lv_iload_n hx hb d_U_rootOf_11 rfl (lv_at hl 2 rfl) ?_
        refine lv_iadd hx hb d_U_rootOf_12 ?_
        refine lv_topi (fun x12 ex12 => ?_)
        refine lv_istore_n (lv' := [(3, .int x12), (0, .int d), (1, .int (nI r)), (2, .int (nI (2 ^ k)))]) hx hb d_U_rootOf_13 rfl hl (by decide) rfl (fun ls hl => ?_)
        refine lv_iload_n hx hb d_U_rootOf_14 rfl (lv_at hl 0 rfl) ?_
        refine lv_iload_n hx hb d_U_rootOf_15 rfl (lv_at hl 0 rfl) ?_
        refine lv_imul hx hb d_U_rootOf_16 ?_
        refine lv_topi (fun x16 ex16 => ?_)
        refine lv_iload_n hx hb d_U_rootOf_17 rfl (lv_at hl 1 rfl) ?_
        have e12 : x12 = nI (r + 2 ^ k) := by rw [ex12, nI_add]
        have hm : (r + 2 ^ k) * (r + 2 ^ k) ≤ 2048 * 2048 := Nat.mul_le_mul (by omega) (by omega)
        have e16 : x16.toInt = (((r + 2 ^ k) * (r + 2 ^ k) : Nat) : Int) := by rw [ex16, e12, pk_mul, nI_toInt (by omega)]
        refine lv_icmp_gt (tgt := 23) hx hb d_U_rootOf_18 (by decide) (fun c18 => ?_) (fun c18 => ?_)
        · have h18 : ¬ ((((r + 2 ^ k) * (r + 2 ^ k) : Nat) : Int) ≤ d.toInt) := by
            rw [Int32.lt_iff_toInt_lt, e16] at c18
            omega
          rw [rtL, if_neg h18] at hv
          refine lv_iload_n hx hb d_U_rootOf_23 rfl (lv_at hl 3 rfl) ?_
          refine lv_iconst (v := 1) hx hb d_U_rootOf_24 (by decide) ?_
          refine lv_ishr hx hb d_U_rootOf_25 ?_
          refine lv_topi (fun x25 ex25 => ?_)
          refine lv_istore_n (lv' := [(2, .int x25), (3, .int x12), (0, .int d), (1, .int (nI r))]) hx hb d_U_rootOf_26 rfl hl (by decide) rfl (fun ls hl => ?_)
          refine lv_goto (tgt := 6) hx hb d_U_rootOf_27 (by decide) ?_
          have e25 : x25 = nI (2 ^ k / 2) := by rw [ex25]; exact pk_shrN (by omega) 1 1 (by decide)
          rw [e25] at hl
          exact ih r [] ls (by omega) (by omega) hv (lv_sub hl [2, 3, 0] rfl)
        · have h18 : ((((r + 2 ^ k) * (r + 2 ^ k) : Nat) : Int) ≤ d.toInt) := by
            rw [Int32.lt_iff_toInt_lt, e16] at c18
            omega
          rw [rtL, if_pos h18] at hv
          refine lv_iload_n hx hb d_U_rootOf_21 rfl (lv_at hl 0 rfl) ?_
          refine lv_istore_n (lv' := [(1, .int x12), (3, .int x12), (0, .int d), (2, .int (nI (2 ^ k)))]) hx hb d_U_rootOf_22 rfl hl (by decide) rfl (fun ls hl => ?_)
          refine lv_iload_n hx hb d_U_rootOf_23 rfl (lv_at hl 3 rfl) ?_
          refine lv_iconst (v := 1) hx hb d_U_rootOf_24 (by decide) ?_
          refine lv_ishr hx hb d_U_rootOf_25 ?_
          refine lv_topi (fun x25 ex25 => ?_)
          refine lv_istore_n (lv' := [(2, .int x25), (1, .int x12), (3, .int x12), (0, .int d)]) hx hb d_U_rootOf_26 rfl hl (by decide) rfl (fun ls hl => ?_)
          refine lv_goto (tgt := 6) hx hb d_U_rootOf_27 (by decide) ?_
          have e25 : x25 = nI (2 ^ k / 2) := by rw [ex25]; exact pk_shrN (by omega) 1 1 (by decide)
          rw [e25, e12] at hl
          exact ih (r + 2 ^ k) [] ls (by omega) (by omega) hv (lv_sub hl [3, 1, 0] rfl)
  refine lv_iconst (v := 0) hx hb d_U_rootOf_0 (by decide) ?_
  refine lv_istore_n (lv' := [(1, .int 0), (0, .int d)]) hx hb d_U_rootOf_1 rfl hl (by decide) rfl (fun ls hl => ?_)
  refine lv_sipush (v := 1024) hx hb d_U_rootOf_2 (by decide) ?_
  refine lv_istore_n (lv' := [(2, .int 1024), (1, .int 0), (0, .int d)]) hx hb d_U_rootOf_5 rfl hl (by decide) rfl (fun ls hl => ?_)
  exact K 11 0 [] ls (by decide) (by decide) rfl (lv_sub hl [2, 1, 0] rfl)
set_option maxHeartbeats 4000000 in
set_option maxRecDepth 100000 in
theorem c_isCoefficient (l : Launch) (x : Int32) : Met l y_U_isCoefficient (zw y_U_isCoefficient b_U_isCoefficient 1 (some .boolean)) { frames := 0, cells := 0, slots := 0, locals := 0 } (va_Pc [.int x] (fun _ => True)) (prQ (.int (if -1073741824 ≤ x.toInt ∧ x.toInt ≤ 1073741824 then 1 else 0))) 0 0 (fun _ => False) := by
  refine pr_ofW (by decide) (Nat.le_of_ble_eq_true rfl) (fun p e s m below meth c hx hb hr hml hown hts hlocks ls hl => ?_)
  have hl : lv_has ls 1 [(0, .int x)] := hl
  have h01 : ((if -1073741824 ≤ x.toInt ∧ x.toInt ≤ 1073741824 then 1 else 0 : Int32) = 0 ∨ (if -1073741824 ≤ x.toInt ∧ x.toInt ≤ 1073741824 then 1 else 0 : Int32) = 1) := by split; exact Or.inr rfl; exact Or.inl rfl
  refine lv_iload_n hx hb d_U_isCoefficient_0 rfl (lv_at hl 0 rfl) ?_
  refine lv_ldc (v := (-1073741824)) hx hb hown (hts _ k_U_131) d_U_isCoefficient_1 ?_
  refine lv_icmp_lt (tgt := 16) hx hb d_U_isCoefficient_3 (by decide) (fun c3 => ?_) (fun c3 => ?_)
  · have h3 : x.toInt < -1073741824 := Int32.lt_iff_toInt_lt.mp c3
    refine lv_iconst (v := 0) hx hb d_U_isCoefficient_16 (by decide) ?_
    exact pr_zret hx hb hr hlocks h01 (by rw [if_neg]; omega) d_U_isCoefficient_17
  · have h3 : ¬ x.toInt < -1073741824 := fun q => c3 (Int32.lt_iff_toInt_lt.mpr q)
    refine lv_iload_n hx hb d_U_isCoefficient_6 rfl (lv_at hl 0 rfl) ?_
    refine lv_ldc (v := 1073741824) hx hb hown (hts _ k_U_132) d_U_isCoefficient_7 ?_
    refine lv_icmp_gt (tgt := 16) hx hb d_U_isCoefficient_9 (by decide) (fun c9 => ?_) (fun c9 => ?_)
    · have h9 : 1073741824 < x.toInt := Int32.lt_iff_toInt_lt.mp c9
      refine lv_iconst (v := 0) hx hb d_U_isCoefficient_16 (by decide) ?_
      exact pr_zret hx hb hr hlocks h01 (by rw [if_neg]; omega) d_U_isCoefficient_17
    · have h9 : ¬ 1073741824 < x.toInt := fun q => c9 (Int32.lt_iff_toInt_lt.mpr q)
      refine lv_iconst (v := 1) hx hb d_U_isCoefficient_12 (by decide) ?_
      refine lv_goto (tgt := 17) hx hb d_U_isCoefficient_13 (by decide) ?_
      exact pr_zret hx hb hr hlocks h01 (by rw [if_pos]; omega) d_U_isCoefficient_17
  /-- D can be taken -/
  def tk (d : Int) : Prop := -1048576 ≤ d ∧ d ≤ 1048576 ∧ d % 4 ≤ 1 ∧ ((rt d * rt d : Nat) : Int) ≠ d
  def tkI (d : Int) : Int32 := if -1048576 ≤ d ∧ d ≤ 1048576 ∧ d % 4 ≤ 1 ∧ ((rt d * rt d : Nat) : Int) ≠ d then 1 else 0
  theorem tkI_01 (d : Int) : tkI d = 0 ∨ tkI d = 1 := by unfold tkI; split; exact Or.inr rfl; exact Or.inl rfl
  theorem tkI_1 {d : Int} (h : tk d) : tkI d = 1 := if_pos h
  theorem tkI_0 {d : Int} (h : ¬ tk d) : tkI d = 0 := if_neg h
  theorem tkI_iff {d : Int} : tkI d = 1 ↔ tk d := ⟨fun h => Classical.byContradiction fun q => by rw [tkI_0 q] at h; exact absurd h (by decide), tkI_1⟩
set_option maxHeartbeats 4000000 in
set_option maxRecDepth 100000 in
theorem c_canBeTaken (l : Launch) (d : Int32) : Met l y_U_canBeTaken (zw y_U_canBeTaken b_U_canBeTaken 2 (some .boolean)) { frames := 1, cells := 0, slots := 0, locals := 23 } (va_Pc [.int d] (fun _ => True)) (prQ (.int (tkI d.toInt))) 0 0 (fun _ => False) := by
  refine pr_ofW (by decide) (Nat.le_of_ble_eq_true rfl) (fun p e s m below meth c hx hb hr hml hown hts hlocks ls hl => ?_)
  have hl : lv_has ls 2 [(0, .int d)] := hl
  have h01 := tkI_01 d.toInt
  have E19 : ∀ (ls : Array Slot), ¬ tk d.toInt → lv_has ls 2 [(0, .int d)] → W p l e ({ frames := 1, cells := 0, slots := 0, locals := 23 } : Room) s m ([.int d] : List Value).toArray below meth c s.heap [] 0 0 (MQ below (prQ (.int (tkI d.toInt))) ([.int d] : List Value).toArray s 0 0 (fun _ => False)) (F0 m 19 ls []) := by
    intro ls hn hl
    refine lv_iconst (v := 0) hx hb d_U_canBeTaken_19 (by decide) ?_
    exact pr_zret hx hb hr hlocks h01 (tkI_0 hn).symm d_U_canBeTaken_20
  refine lv_iload_n hx hb d_U_canBeTaken_0 rfl (lv_at hl 0 rfl) ?_
  refine lv_ldc (v := (-1048576)) hx hb hown (hts _ k_U_126) d_U_canBeTaken_1 ?_
  refine lv_icmp_lt (tgt := 19) hx hb d_U_canBeTaken_3 (by decide) (fun c3 => ?_) (fun c3 => ?_)
  · exact E19 ls (fun q => absurd q.1 (by have := Int32.lt_iff_toInt_lt.mp c3; rw [show (-1048576 : Int32).toInt = -1048576 from rfl] at this; omega)) hl
  · have h3 : -1048576 ≤ d.toInt := by
      have : ¬ d.toInt < (-1048576 : Int32).toInt := fun q => c3 (Int32.lt_iff_toInt_lt.mpr q)
      rw [show (-1048576 : Int32).toInt = -1048576 from rfl] at this
      omega
    refine lv_iload_n hx hb d_U_canBeTaken_6 rfl (lv_at hl 0 rfl) ?_
    refine lv_ldc (v := 1048576) hx hb hown (hts _ k_U_127) d_U_canBeTaken_7 ?_
    refine lv_icmp_gt (tgt := 19) hx hb d_U_canBeTaken_9 (by decide) (fun c9 => ?_) (fun c9 => ?_)
    · exact E19 ls (fun q => absurd q.2.1 (by have := Int32.lt_iff_toInt_lt.mp c9; rw [show (1048576 : Int32).toInt = 1048576 from rfl] at this; omega)) hl
    · have h9 : d.toInt ≤ 1048576 := by
        have : ¬ (1048576 : Int32).toInt < d.toInt := fun q => c9 (Int32.lt_iff_toInt_lt.mpr q)
        rw [show (1048576 : Int32).toInt = 1048576 from rfl] at this
        omega
      refine lv_iload_n hx hb d_U_canBeTaken_12 rfl (lv_at hl 0 rfl) ?_
      refine lv_iconst (v := 3) hx hb d_U_canBeTaken_13 (by decide) ?_
      refine lv_iand hx hb d_U_canBeTaken_14 ?_
      refine lv_topi (fun x14 ex14 => ?_)
      refine lv_iconst (v := 1) hx hb d_U_canBeTaken_15 (by decide) ?_
      have e14 : x14.toInt = d.toInt % 4 := by rw [ex14]; exact Jvm.Kit.i32_mask d 3 (k := 2) (by decide) (by decide)
      refine lv_icmp_le (tgt := 21) hx hb d_U_canBeTaken_16 (by decide) (fun c16 => ?_) (fun c16 => ?_)
      · have h16 : d.toInt % 4 ≤ 1 := by
          rw [Int32.le_iff_toInt_le, e14] at c16
          exact c16
        refine lv_iload_n hx hb d_U_canBeTaken_21 rfl (lv_at hl 0 rfl) ?_
        refine pr_call (As := [.int d]) (rest := []) hx hb hml hown hts (c_rootOf l d) (w_U_rootOf_cw hts k_U_128 rfl rfl ⟨Nat.le_of_ble_eq_true rfl, Nat.le_of_ble_eq_true rfl⟩) rfl hl.1 rfl (lv_room (Nat.le_of_ble_eq_true rfl)) d_U_canBeTaken_22 ⟨Nat.zero_le _, Nat.zero_le _⟩ ?_
        refine lv_topi (fun x22 ex22 => ?_)
        refine lv_istore_n (lv' := [(1, .int x22), (0, .int d)]) hx hb d_U_canBeTaken_25 rfl hl (by decide) rfl (fun ls hl => ?_)
        refine lv_iload_n hx hb d_U_canBeTaken_26 rfl (lv_at hl 0 rfl) ?_
        refine lv_iload_n hx hb d_U_canBeTaken_27 rfl (lv_at hl 0 rfl) ?_
        refine lv_imul hx hb d_U_canBeTaken_28 ?_
        refine lv_topi (fun x28 ex28 => ?_)
        refine lv_iload_n hx hb d_U_canBeTaken_29 rfl (lv_at hl 1 rfl) ?_
        have hr1 : rt d.toInt < 2048 := rtL_le d.toInt 11 0
        have e28 : x28.toInt = ((rt d.toInt * rt d.toInt : Nat) : Int) := by
          rw [ex28, ex22, pk_mul, nI_toInt]
          exact Nat.lt_of_le_of_lt (Nat.mul_le_mul (Nat.le_of_lt hr1) (Nat.le_of_lt hr1)) (by decide)
        refine lv_icmp_eq (tgt := 37) hx hb d_U_canBeTaken_30 (by decide) (fun c30 => ?_) (fun c30 => ?_)
        · refine lv_iconst (v := 0) hx hb d_U_canBeTaken_37 (by decide) ?_
          exact pr_zret hx hb hr hlocks h01 (tkI_0 (fun q => q.2.2.2 (by rw [← e28, c30]))).symm d_U_canBeTaken_38
        · refine lv_iconst (v := 1) hx hb d_U_canBeTaken_33 (by decide) ?_
          refine lv_goto (tgt := 38) hx hb d_U_canBeTaken_34 (by decide) ?_
          exact pr_zret hx hb hr hlocks h01 (tkI_1 ⟨h3, h9, h16, fun q => c30 (Int32.toInt_inj.mp (by rw [e28, q]))⟩).symm d_U_canBeTaken_38
      · exact E19 ls (fun q => c16 (by rw [Int32.le_iff_toInt_le, e14]; exact q.2.2.1)) hl
  /-- Euclid, two steps halve -/
  theorem eu_half {g s : Nat} (h : s ≠ 0) (h2 : g % s ≠ 0) : 2 * (s % (g % s)) < s := by
    have h1 : g % s < s := Nat.mod_lt _ (by omega)
    have h3 : s % (g % s) < g % s := Nat.mod_lt _ (by omega)
    have h4 : s % (g % s) ≤ s - g % s := by
      have e := Nat.mod_eq_sub_mod (a := s) (b := g % s) (by omega)
      rw [e]
      exact Nat.mod_le _ _
    omega
set_option maxHeartbeats 4000000 in
set_option maxRecDepth 100000 in
theorem c_commonDivisor (l : Launch) {x y : Int32} (hx1 : x.toInt.natAbs ≤ 1073741824) (hy1 : y.toInt.natAbs ≤ 1073741824) : Met l y_U_commonDivisor (zw y_U_commonDivisor b_U_commonDivisor 6 (some .int)) { frames := 1, cells := 0, slots := 0, locals := 23 } (va_Pc [.int x, .int y] (fun _ => True)) (prQ (.int (nI (Nat.gcd x.toInt.natAbs y.toInt.natAbs)))) 0 0 (fun _ => False) := by
  refine pr_ofW (by decide) (Nat.le_of_ble_eq_true rfl) (fun p e s m below meth c hx hb hr hml hown hts hlocks ls hl => ?_)
  have hl : lv_has ls 6 [(0, .int x), (1, .int y)] := hl
  have K2 : ∀ (u : Nat) (k a b : Nat) (ls : Array Slot), a ≤ 1073741824 → b ≤ 1073741824 → k + 2 * u ≤ 63 → b < 2 ^ u → Nat.gcd a b = Nat.gcd x.toInt.natAbs y.toInt.natAbs → lv_has ls 6 [(0, .int x), (1, .int y), (2, .int (nI a)), (3, .int (nI b)), (4, .int (nI k))] → W p l e ({ frames := 1, cells := 0, slots := 0, locals := 23 } : Room) s m ([.int x, .int y] : List Value).toArray below meth c s.heap [] 0 0 (MQ below (prQ (.int (nI (Nat.gcd x.toInt.natAbs y.toInt.natAbs)))) ([.int x, .int y] : List Value).toArray s 0 0 (fun _ => False)) (F0 m 13 ls []) := by
    intro u
    induction u with
    | zero =>
      intro k a b ls ha hb1 hk hu hg hl
      have hb2 : b = 0 := by
        rw [Nat.pow_zero] at hu
        omega
      subst hb2
      refine lv_iload_n hx hb d_U_commonDivisor_13 rfl (lv_at hl 3 rfl) ?_
      refine lv_if_eq (tgt := 40) hx hb d_U_commonDivisor_14 (by decide) (fun c14 => ?_) (fun c14 => ?_)
      · refine lv_iload_n hx hb d_U_commonDivisor_40 rfl (lv_at hl 2 rfl) ?_
        exact pr_iret hx hb hr hlocks (by rw [← hg, Nat.gcd_zero_right]) d_U_commonDivisor_41
      · exact absurd rfl c14
    | succ u ih =>
      have hp1 : 2 ^ (u + 1) = 2 ^ u + 2 ^ u := by rw [Nat.pow_succ]; omega
      have K1 : ∀ (k a b : Nat) (ls : Array Slot), a ≤ 1073741824 → b ≤ 1073741824 → k + 2 * u ≤ 62 → (b ≠ 0 → a % b < 2 ^ u) → Nat.gcd a b = Nat.gcd x.toInt.natAbs y.toInt.natAbs → lv_has ls 6 [(0, .int x), (1, .int y), (2, .int (nI a)), (3, .int (nI b)), (4, .int (nI k))] → W p l e ({ frames := 1, cells := 0, slots := 0, locals := 23 } : Room) s m ([.int x, .int y] : List Value).toArray below meth c s.heap [] 0 0 (MQ below (prQ (.int (nI (Nat.gcd x.toInt.natAbs y.toInt.natAbs)))) ([.int x, .int y] : List Value).toArray s 0 0 (fun _ => False)) (F0 m 13 ls []) := by
        intro k a b ls ha hb1 hk hu hg hl
        refine lv_iload_n hx hb d_U_commonDivisor_13 rfl (lv_at hl 3 rfl) ?_
        refine lv_if_eq (tgt := 40) hx hb d_U_commonDivisor_14 (by decide) (fun c14 => ?_) (fun c14 => ?_)
        · have h14 : b = 0 := Nat.eq_zero_of_not_pos (fun q => nI_ne0 q (by omega) c14)
          refine lv_iload_n hx hb d_U_commonDivisor_40 rfl (lv_at hl 2 rfl) ?_
          exact pr_iret hx hb hr hlocks (by rw [← hg, h14, Nat.gcd_zero_right]) d_U_commonDivisor_41
        · have h14 : b ≠ 0 := fun q => c14 (by rw [q]; rfl)
          refine lv_iload hx hb d_U_commonDivisor_17 (lv_at hl 4 rfl) ?_
          refine lv_bipush (v := 64) hx hb d_U_commonDivisor_19 (by decide) ?_
          refine lv_icmp_ge (tgt := 40) hx hb d_U_commonDivisor_21 (by decide) (fun c21 => ?_) (fun c21 => ?_)
          · exact absurd c21 (nI_ge (a := k) (b := 64) (by omega) (by decide))
          · have hne26 : ¬ nI b = 0 := c14
            refine lv_iload_n hx hb d_U_commonDivisor_24 rfl (lv_at hl 2 rfl) ?_
            refine lv_iload_n hx hb d_U_commonDivisor_25 rfl (lv_at hl 3 rfl) ?_
            refine lv_irem hx hb d_U_commonDivisor_26 hne26 ?_
            refine lv_topi (fun x26 ex26 => ?_)
            refine lv_istore (lv' := [(5, .int x26), (0, .int x), (1, .int y), (2, .int (nI a)), (3, .int (nI b)), (4, .int (nI k))]) hx hb d_U_commonDivisor_27 hl (by decide) rfl (fun ls hl => ?_)
            refine lv_iload_n hx hb d_U_commonDivisor_29 rfl (lv_at hl 4 rfl) ?_
            refine lv_istore_n (lv' := [(2, .int (nI b)), (5, .int x26), (0, .int x), (1, .int y), (3, .int (nI b)), (4, .int (nI k))]) hx hb d_U_commonDivisor_30 rfl hl (by decide) rfl (fun ls hl => ?_)
            refine lv_iload hx hb d_U_commonDivisor_31 (lv_at hl 1 rfl) ?_
            refine lv_istore_n (lv' := [(3, .int x26), (2, .int (nI b)), (5, .int x26), (0, .int x), (1, .int y), (4, .int (nI k))]) hx hb d_U_commonDivisor_33 rfl hl (by decide) rfl (fun ls hl => ?_)
            obtain ⟨x34, ex34⟩ : ∃ y : Int32, y = (nI k) + Int32.ofInt 1 := ⟨_, rfl⟩
            refine lv_iinc (v := x34) (lv' := [(4, .int x34), (3, .int x26), (2, .int (nI b)), (5, .int x26), (0, .int x), (1, .int y)]) hx hb d_U_commonDivisor_34 hl (k := 5) rfl (by rw [ex34]) (by decide) rfl (fun ls hl => ?_)
            refine lv_goto (tgt := 13) hx hb d_U_commonDivisor_37 (by decide) ?_
            have e26 : x26 = nI (a % b) := by rw [ex26]; exact pk_rem (by omega) (by omega) (by omega)
            rw [e26, ex34, show Int32.ofInt 1 = 1 from rfl, nI_1] at hl
            exact ih (k + 1) b (a % b) ls hb1 (by have := Nat.mod_lt a (Nat.pos_of_ne_zero h14); omega) (by omega) (hu h14) (by rw [← hg, Nat.gcd_comm b, ← Nat.gcd_rec, Nat.gcd_comm]) (lv_sub hl [4, 5, 2, 1, 0] rfl)
      intro k a b ls ha hb1 hk hu hg hl
      refine lv_iload_n hx hb d_U_commonDivisor_13 rfl (lv_at hl 3 rfl) ?_
      refine lv_if_eq (tgt := 40) hx hb d_U_commonDivisor_14 (by decide) (fun c14 => ?_) (fun c14 => ?_)
      · have h14 : b = 0 := Nat.eq_zero_of_not_pos (fun q => nI_ne0 q (by omega) c14)
        refine lv_iload_n hx hb d_U_commonDivisor_40 rfl (lv_at hl 2 rfl) ?_
        exact pr_iret hx hb hr hlocks (by rw [← hg, h14, Nat.gcd_zero_right]) d_U_commonDivisor_41
      · have h14 : b ≠ 0 := fun q => c14 (by rw [q]; rfl)
        refine lv_iload hx hb d_U_commonDivisor_17 (lv_at hl 4 rfl) ?_
        refine lv_bipush (v := 64) hx hb d_U_commonDivisor_19 (by decide) ?_
        refine lv_icmp_ge (tgt := 40) hx hb d_U_commonDivisor_21 (by decide) (fun c21 => ?_) (fun c21 => ?_)
        · exact absurd c21 (nI_ge (a := k) (b := 64) (by omega) (by decide))
        · have hne26 : ¬ nI b = 0 := c14
          refine lv_iload_n hx hb d_U_commonDivisor_24 rfl (lv_at hl 2 rfl) ?_
          refine lv_iload_n hx hb d_U_commonDivisor_25 rfl (lv_at hl 3 rfl) ?_
          refine lv_irem hx hb d_U_commonDivisor_26 hne26 ?_
          refine lv_topi (fun x26 ex26 => ?_)
          refine lv_istore (lv' := [(5, .int x26), (0, .int x), (1, .int y), (2, .int (nI a)), (3, .int (nI b)), (4, .int (nI k))]) hx hb d_U_commonDivisor_27 hl (by decide) rfl (fun ls hl => ?_)
          refine lv_iload_n hx hb d_U_commonDivisor_29 rfl (lv_at hl 4 rfl) ?_
          refine lv_istore_n (lv' := [(2, .int (nI b)), (5, .int x26), (0, .int x), (1, .int y), (3, .int (nI b)), (4, .int (nI k))]) hx hb d_U_commonDivisor_30 rfl hl (by decide) rfl (fun ls hl => ?_)
          refine lv_iload hx hb d_U_commonDivisor_31 (lv_at hl 1 rfl) ?_
          refine lv_istore_n (lv' := [(3, .int x26), (2, .int (nI b)), (5, .int x26), (0, .int x), (1, .int y), (4, .int (nI k))]) hx hb d_U_commonDivisor_33 rfl hl (by decide) rfl (fun ls hl => ?_)
          obtain ⟨x34, ex34⟩ : ∃ y : Int32, y = (nI k) + Int32.ofInt 1 := ⟨_, rfl⟩
          refine lv_iinc (v := x34) (lv' := [(4, .int x34), (3, .int x26), (2, .int (nI b)), (5, .int x26), (0, .int x), (1, .int y)]) hx hb d_U_commonDivisor_34 hl (k := 5) rfl (by rw [ex34]) (by decide) rfl (fun ls hl => ?_)
          refine lv_goto (tgt := 13) hx hb d_U_commonDivisor_37 (by decide) ?_
          have e26 : x26 = nI (a % b) := by rw [ex26]; exact pk_rem (by omega) (by omega) (by omega)
          rw [e26, ex34, show Int32.ofInt 1 = 1 from rfl, nI_1] at hl
          exact K1 (k + 1) b (a % b) ls hb1 (by have := Nat.mod_lt a (Nat.pos_of_ne_zero h14); omega) (by omega) (fun q => by have := eu_half h14 q; omega) (by rw [← hg, Nat.gcd_comm b, ← Nat.gcd_rec, Nat.gcd_comm]) (lv_sub hl [4, 5, 2, 1, 0] rfl)
  refine lv_iload_n hx hb d_U_commonDivisor_0 rfl (lv_at hl 0 rfl) ?_
  refine va_mabs hx hb (hml.trans hl.1.symm) hown (hts _ k_U_133) (hts _ q_abs_st) (hts _ q_math) (hts _ q_abs_co) (Nat.le_of_ble_eq_true rfl) (Nat.le_of_ble_eq_true rfl) (Nat.zero_le _) (Nat.zero_le _) d_U_commonDivisor_1 ?_
  refine lv_topi (fun x1 ex1 => ?_)
  refine lv_istore_n (lv' := [(2, .int x1), (0, .int x), (1, .int y)]) hx hb d_U_commonDivisor_4 rfl hl (by decide) rfl (fun ls hl => ?_)
  refine lv_iload_n hx hb d_U_commonDivisor_5 rfl (lv_at hl 2 rfl) ?_
  refine va_mabs hx hb (hml.trans hl.1.symm) hown (hts _ k_U_133) (hts _ q_abs_st) (hts _ q_math) (hts _ q_abs_co) (Nat.le_of_ble_eq_true rfl) (Nat.le_of_ble_eq_true rfl) (Nat.zero_le _) (Nat.zero_le _) d_U_commonDivisor_6 ?_
  refine lv_topi (fun x6 ex6 => ?_)
  refine lv_istore_n (lv' := [(3, .int x6), (2, .int x1), (0, .int x), (1, .int y)]) hx hb d_U_commonDivisor_9 rfl hl (by decide) rfl (fun ls hl => ?_)
  refine lv_iconst (v := 0) hx hb d_U_commonDivisor_10 (by decide) ?_
  refine lv_istore (lv' := [(4, .int 0), (3, .int x6), (2, .int x1), (0, .int x), (1, .int y)]) hx hb d_U_commonDivisor_11 hl (by decide) rfl (fun ls hl => ?_)
  have e1 : x1 = nI x.toInt.natAbs := by rw [ex1]; exact abs_nI (by omega)
  have e6 : x6 = nI y.toInt.natAbs := by rw [ex6]; exact abs_nI (by omega)
  rw [e1, e6] at hl
  exact K2 31 0 _ _ ls hx1 hy1 (by decide) (by omega) rfl (lv_sub hl [3, 4, 2, 1, 0] rfl)
end
section
/-! UnitFinder$Big, method by method -/
def bOk (b : BS) : Prop := ∃ n : Nat, n ≤ 512 ∧ b.1 = nI n ∧ (b.2.1 = 0 ∨ b.2.1 = 1) ∧ (n = 0 ∨ wn (b.2.2 (n - 1)) ≠ 0)
def bv (b : BS) : Nat := vl b.2.2 b.1.toNatClampNeg
def bz (b : BS) : Int := if b.2.1 = 0 then (bv b : Int) else -(bv b : Int)
def bsg (b : BS) : Int32 := if bv b = 0 then 0 else if b.2.1 = 0 then 1 else -1
theorem bv_of {b : BS} {n : Nat} (hn : n ≤ 512) (h : b.1 = nI n) : bv b = vl b.2.2 n := by rw [bv, h, nI_clamp (by omega)]
theorem vl_pos {f : Nat → Int32} {n : Nat} (h : 0 < n) (ht : wn (f (n - 1)) ≠ 0) : vl f n ≠ 0 := by
  obtain ⟨k, rfl⟩ : ∃ k, n = k + 1 := ⟨n - 1, by omega⟩
  rw [vl_s]
  rw [Nat.add_sub_cancel] at ht
  have h1 : 0 < wn (f k) * 4294967296 ^ k := Nat.mul_pos (Nat.pos_of_ne_zero ht) (pB k)
  omega
/-- a row of n words, nothing above -/
def wd (f : Nat → Int32) (n : Nat) : Nat → Int32 := fun k => if k < n then f k else 0
theorem wd_lt {f : Nat → Int32} {n k : Nat} (h : k < n) : wd f n k = f k := if_pos h
theorem wd_ge {f : Nat → Int32} {n k : Nat} (h : n ≤ k) : wd f n k = 0 := if_neg (by omega)
theorem vl_wdl {f : Nat → Int32} {n k : Nat} (h : k ≤ n) : vl (wd f n) k = vl f k := vl_congr fun j hj => wd_lt (by omega)
theorem vl_wd {f : Nat → Int32} {n : Nat} : ∀ {k : Nat}, n ≤ k → vl (wd f n) k = vl f n := by
  intro k
  induction k with
  | zero => intro h; rw [Nat.le_zero.mp h]; rfl
  | succ k ih =>
    intro h
    rcases Nat.lt_or_ge k n with h1 | h1
    · rw [show n = k + 1 by omega]; exact vl_wdl (Nat.le_refl _)
    · rw [vl_s, wd_ge h1, wn_0, Nat.zero_mul, Nat.add_zero]; exact ih h1
set_option maxHeartbeats 4000000 in
set_option maxRecDepth 100000 in
theorem c_wordAt (l : Launch) (z : ZZ) (sz : Nat) (g : St) {i : Nat} (hi : i < 10) {n : Nat} (hn : n ≤ 512) (hn1 : (g.2.2.2 i).1 = nI n) {K : Nat} (hK : K < 2 ^ 31) : Met l y_B_wordAt (zw y_B_wordAt b_B_wordAt 2 (some .int)) { frames := 0, cells := 0, slots := 0, locals := 0 } (va_Pc [.ref (oA z i), .int (nI K)] (zI z g sz)) (va_Qi (fun r g2 => g2 = g ∧ r = wd (g.2.2.2 i).2.2 n K) (zO z sz) (zA z sz)) 0 0 (zA z sz) := by
  refine z_ofW (by decide) (Nat.le_of_ble_eq_true rfl) (fun p e s m below meth c hx hb hr hml hown hts hlocks hname hsz hN ls hU hl => ?_)
  have hl : lv_has ls 2 [(0, .ref (oA z i)), (1, .int (nI K))] := hl
  refine lv_iload_n hx hb d_B_wordAt_0 rfl (lv_at hl 1 rfl) ?_
  refine lv_aload_n hx hb d_B_wordAt_1 rfl (lv_at hl 0 rfl) ?_
  refine va_get (D := z.1) (ci := 2) (v := .int ((g.2.2.2 i).1)) (C := R_B) (T := F_B) (N := 3) hx hb hts in_B hown hU.2.1 hU.1 (2 + 2 * i) (uw_o z g hi) rfl 1 (by decide) (hts _ k_B_23) (fun _ h9 => h9) rfl d_B_wordAt_2 ?_
  refine lv_topi (fun x2 ex2 => ?_)
  refine lv_icmp_ge (tgt := 17) hx hb d_B_wordAt_5 (by decide) (fun c5 => ?_) (fun c5 => ?_)
  · have h5 : n ≤ K := (nI_leI (by omega) hK).mp (by rw [← hn1, ← ex2]; exact c5)
    refine lv_iconst (v := 0) hx hb d_B_wordAt_17 (by decide) ?_
    exact z_iret hx hb hr hlocks hsz hU ⟨rfl, (wd_ge h5).symm⟩ d_B_wordAt_18
  · have h5 : K < n := Nat.lt_of_not_le (fun q => c5 (by rw [ex2, hn1]; exact (nI_leI (by omega) hK).mpr q))
    have hin13 : vp_in (nI K) 512 := vp_in_nI (by omega) (by omega)
    refine lv_aload_n hx hb d_B_wordAt_8 rfl (lv_at hl 0 rfl) ?_
    refine va_get (D := z.1) (ci := 2) (v := .ref (rA z i)) (C := R_B) (T := F_B) (N := 3) hx hb hts in_B hown hU.2.1 hU.1 (2 + 2 * i) (uw_o z g hi) rfl 0 (by decide) (hts _ k_B_9) (fun _ h9 => h9) rfl d_B_wordAt_9 ?_
    refine lv_iload_n hx hb d_B_wordAt_12 rfl (lv_at hl 1 rfl) ?_
    refine va_iald hx hb hU.2.1 hU.1 (3 + 2 * i) i (uw_w z g hi) (zty_a z hi) hin13 d_B_wordAt_13 ?_
    refine lv_topi (fun x13 ex13 => ?_)
    refine lv_goto (tgt := 18) hx hb d_B_wordAt_14 (by decide) ?_
    exact z_iret hx hb hr hlocks hsz hU ⟨rfl, by rw [ex13, nI_clamp hK, wd_lt h5]⟩ d_B_wordAt_18
set_option maxHeartbeats 4000000 in
set_option maxRecDepth 100000 in
theorem c_signum (l : Launch) (z : ZZ) (sz : Nat) (g : St) {i : Nat} (hi : i < 10) (hok : bOk (g.2.2.2 i)) : Met l y_B_signum (zw y_B_signum b_B_signum 1 (some .int)) { frames := 0, cells := 0, slots := 0, locals := 0 } (va_Pc [.ref (oA z i)] (zI z g sz)) (va_Qi (fun r g2 => g2 = g ∧ r = bsg (g.2.2.2 i)) (zO z sz) (zA z sz)) 0 0 (zA z sz) := by
  refine z_ofW (by decide) (Nat.le_of_ble_eq_true rfl) (fun p e s m below meth c hx hb hr hml hown hts hlocks hname hsz hN ls hU hl => ?_)
  have hl : lv_has ls 1 [(0, .ref (oA z i))] := hl
  obtain ⟨n, hn, hn1, hbel, htop⟩ := hok
  have hbv : bv (g.2.2.2 i) = vl (g.2.2.2 i).2.2 n := bv_of hn hn1
  refine lv_aload_n hx hb d_B_signum_0 rfl (lv_at hl 0 rfl) ?_
  refine va_get (D := z.1) (ci := 2) (v := .int ((g.2.2.2 i).1)) (C := R_B) (T := F_B) (N := 3) hx hb hts in_B hown hU.2.1 hU.1 (2 + 2 * i) (uw_o z g hi) rfl 1 (by decide) (hts _ k_B_23) (fun _ h9 => h9) rfl d_B_signum_1 ?_
  refine lv_topi (fun x1 ex1 => ?_)
  refine lv_if_ne (tgt := 9) hx hb d_B_signum_4 (by decide) (fun c4 => ?_) (fun c4 => ?_)
  · have h4 : 0 < n := Nat.pos_of_ne_zero (fun q => c4 (by rw [ex1, hn1, q]; rfl))
    have h4b : bv (g.2.2.2 i) ≠ 0 := by rw [hbv]; exact vl_pos h4 (htop.resolve_left (by omega))
    refine lv_aload_n hx hb d_B_signum_9 rfl (lv_at hl 0 rfl) ?_
    refine va_get (D := z.1) (ci := 2) (v := .int ((g.2.2.2 i).2.1)) (C := R_B) (T := F_B) (N := 3) hx hb hts in_B hown hU.2.1 hU.1 (2 + 2 * i) (uw_o z g hi) rfl 2 (by decide) (hts _ k_B_15) (fun _ h9 => h9) rfl d_B_signum_10 ?_
    refine lv_topi (fun x10 ex10 => ?_)
    refine lv_if_eq (tgt := 20) hx hb d_B_signum_13 (by decide) (fun c13 => ?_) (fun c13 => ?_)
    · have h13 : (g.2.2.2 i).2.1 = 0 := by rw [← ex10]; exact c13
      refine lv_iconst (v := 1) hx hb d_B_signum_20 (by decide) ?_
      exact z_iret hx hb hr hlocks hsz hU ⟨rfl, by rw [bsg, if_neg h4b, if_pos h13]⟩ d_B_signum_21
    · have h13 : ¬ (g.2.2.2 i).2.1 = 0 := by rw [← ex10]; exact c13
      refine lv_iconst (v := (-1)) hx hb d_B_signum_16 (by decide) ?_
      refine lv_goto (tgt := 21) hx hb d_B_signum_17 (by decide) ?_
      exact z_iret hx hb hr hlocks hsz hU ⟨rfl, by rw [bsg, if_neg h4b, if_neg h13]⟩ d_B_signum_21
  · have h4 : n = 0 := by
      have q : nI n = 0 := by rw [← hn1, ← ex1]; exact c4
      exact Nat.eq_zero_of_not_pos (fun h => nI_ne0 h (by omega) q)
    have h4b : bv (g.2.2.2 i) = 0 := by rw [hbv, h4]; rfl
    refine lv_iconst (v := 0) hx hb d_B_signum_7 (by decide) ?_
    exact z_iret hx hb hr hlocks hsz hU ⟨rfl, by rw [bsg, if_pos h4b]⟩ d_B_signum_8
set_option maxHeartbeats 4000000 in
set_option maxRecDepth 100000 in
theorem c_close (l : Launch) (z : ZZ) (sz : Nat) (g : St) {i : Nat} (hi : i < 10) (hbel : (g.2.2.2 i).2.1 = 0 ∨ (g.2.2.2 i).2.1 = 1) {n : Nat} (hn : n ≤ 512) (cr : Int64) : Met l y_B_close (zw y_B_close b_B_close 4 none) { frames := 0, cells := 0, slots := 0, locals := 0 } (va_Pc [.ref (oA z i), .int (nI n), .long cr] (zI z g sz)) (va_Qv (fun g2 => ∃ b, g2 = sG g i b ∧ bOk b ∧ b.2.1 = (g.2.2.2 i).2.1 ∧ bv b = (vl (g.2.2.2 i).2.2 n + uN cr % 4294967296 * 4294967296 ^ n) % MM) (zO z sz) (zA z sz)) 0 0 (zA z sz) := by
  refine z_ofW (by decide) (Nat.le_of_ble_eq_true rfl) (fun p e s m below meth c hx hb hr hml hown hts hlocks hname hsz hN ls hU hl => ?_)
  have hl : lv_has ls 4 [(0, .ref (oA z i)), (1, .int (nI n)), (2, .long cr)] := hl
  have K : ∀ (k : Nat) (f : Nat → Int32) (H : Heap) (locs : List Loc) (ls : Array Slot), k ≤ 512 → vl f k = (vl (g.2.2.2 i).2.2 n + uN cr % 4294967296 * 4294967296 ^ n) % MM → Ws z (sG g i (nI k, (g.2.2.2 i).2.1, f)) s.heap H locs s → lv_has ls 4 [(0, .ref (oA z i)), (1, .int (nI n)), (2, .long cr)] → W p l e ({ frames := 0, cells := 0, slots := 0, locals := 0 } : Room) s m ([.ref (oA z i), .int (nI n), .long cr] : List Value).toArray below meth c H locs 0 0 (MQ below (va_Qv (fun g2 => ∃ b, g2 = sG g i b ∧ bOk b ∧ b.2.1 = (g.2.2.2 i).2.1 ∧ bv b = (vl (g.2.2.2 i).2.2 n + uN cr % 4294967296 * 4294967296 ^ n) % MM) (zO z sz) (zA z sz)) ([.ref (oA z i), .int (nI n), .long cr] : List Value).toArray s 0 0 (zA z sz)) (F0 m 42 ls []) := by
    intro k
    induction k with
    | zero =>
      intro f H locs ls hk hv hU hl
      have hg1 : ((sG g i (nI 0, (g.2.2.2 i).2.1, f)).2.2.2 i) = (nI 0, (g.2.2.2 i).2.1, f) := sG_s _ _ _
      refine lv_aload_n hx hb d_B_close_42 rfl (lv_at hl 0 rfl) ?_
      refine va_get (D := z.1) (ci := 2) (v := .int (((sG g i (nI 0, (g.2.2.2 i).2.1, f)).2.2.2 i).1)) (C := R_B) (T := F_B) (N := 3) hx hb hts in_B hown hU.2.1 hU.1 (2 + 2 * i) (uw_o z (sG g i (nI 0, (g.2.2.2 i).2.1, f)) hi) rfl 1 (by decide) (hts _ k_B_23) (fun _ h9 => h9) rfl d_B_close_43 ?_
      refine lv_topi (fun x43 ex43 => ?_)
      refine lv_if_le (tgt := 76) hx hb d_B_close_46 (by decide) (fun c46 => ?_) (fun c46 => ?_)
      · exact z_vret hx hb hr hlocks hsz hU ⟨_, rfl, ⟨0, hk, rfl, hbel, Or.inl rfl⟩, rfl, by rw [bv_of (n := 0) hk rfl]; exact hv⟩ d_B_close_76
      · exact absurd (by rw [ex43, hg1]; exact Int32.le_refl _) c46
    | succ k ih =>
      intro f H locs ls hk hv hU hl
      have hg1 : ((sG g i (nI (k + 1), (g.2.2.2 i).2.1, f)).2.2.2 i) = (nI (k + 1), (g.2.2.2 i).2.1, f) := sG_s _ _ _
      refine lv_aload_n hx hb d_B_close_42 rfl (lv_at hl 0 rfl) ?_
      refine va_get (D := z.1) (ci := 2) (v := .int (((sG g i (nI (k + 1), (g.2.2.2 i).2.1, f)).2.2.2 i).1)) (C := R_B) (T := F_B) (N := 3) hx hb hts in_B hown hU.2.1 hU.1 (2 + 2 * i) (uw_o z (sG g i (nI (k + 1), (g.2.2.2 i).2.1, f)) hi) rfl 1 (by decide) (hts _ k_B_23) (fun _ h9 => h9) rfl d_B_close_43 ?_
      refine lv_topi (fun x43 ex43 => ?_)
      refine lv_if_le (tgt := 76) hx hb d_B_close_46 (by decide) (fun c46 => ?_) (fun c46 => ?_)
      · exact absurd (by rw [ex43, hg1] at c46; exact c46) (nI_nle (by omega) (by omega))
      · refine lv_aload_n hx hb d_B_close_49 rfl (lv_at hl 0 rfl) ?_
        refine va_get (D := z.1) (ci := 2) (v := .ref (rA z i)) (C := R_B) (T := F_B) (N := 3) hx hb hts in_B hown hU.2.1 hU.1 (2 + 2 * i) (uw_o z (sG g i (nI (k + 1), (g.2.2.2 i).2.1, f)) hi) rfl 0 (by decide) (hts _ k_B_9) (fun _ h9 => h9) rfl d_B_close_50 ?_
        refine lv_aload_n hx hb d_B_close_53 rfl (lv_at hl 0 rfl) ?_
        refine va_get (D := z.1) (ci := 2) (v := .int (((sG g i (nI (k + 1), (g.2.2.2 i).2.1, f)).2.2.2 i).1)) (C := R_B) (T := F_B) (N := 3) hx hb hts in_B hown hU.2.1 hU.1 (2 + 2 * i) (uw_o z (sG g i (nI (k + 1), (g.2.2.2 i).2.1, f)) hi) rfl 1 (by decide) (hts _ k_B_23) (fun _ h9 => h9) rfl d_B_close_54 ?_
        refine lv_topi (fun x54 ex54 => ?_)
        refine lv_iconst (v := 1) hx hb d_B_close_57 (by decide) ?_
        refine lv_isub hx hb d_B_close_58 ?_
        refine lv_topi (fun x58 ex58 => ?_)
        have e58 : x58 = nI k := by rw [ex58, ex54, hg1]; exact nI_pred k
        have hin59 : vp_in x58 512 := by rw [e58]; exact vp_in_nI (by omega) (by omega)
        refine va_iald hx hb hU.2.1 hU.1 (3 + 2 * i) i (uw_w z (sG g i (nI (k + 1), (g.2.2.2 i).2.1, f)) hi) (zty_a z hi) hin59 d_B_close_59 ?_
        refine lv_topi (fun x59 ex59 => ?_)
        have e59 : x59 = f k := by rw [ex59, e58, nI_clamp (by omega), hg1]
        refine lv_if_ne (tgt := 76) hx hb d_B_close_60 (by decide) (fun c60 => ?_) (fun c60 => ?_)
        · exact z_vret hx hb hr hlocks hsz hU ⟨_, rfl, ⟨k + 1, hk, rfl, hbel, Or.inr (fun q => c60 (by rw [e59]; exact wn_inj (q.trans wn_0.symm)))⟩, rfl, by rw [bv_of (n := k + 1) hk rfl]; exact hv⟩ d_B_close_76
        · have h60 : f k = 0 := by rw [← e59]; exact c60
          refine lv_aload_n hx hb d_B_close_63 rfl (lv_at hl 0 rfl) ?_
          refine lv_dup hx hb d_B_close_64 rfl ?_
          refine va_get (D := z.1) (ci := 2) (v := .int (((sG g i (nI (k + 1), (g.2.2.2 i).2.1, f)).2.2.2 i).1)) (C := R_B) (T := F_B) (N := 3) hx hb hts in_B hown hU.2.1 hU.1 (2 + 2 * i) (uw_o z (sG g i (nI (k + 1), (g.2.2.2 i).2.1, f)) hi) rfl 1 (by decide) (hts _ k_B_23) (fun _ h9 => h9) rfl d_B_close_65 ?_
          refine lv_topi (fun x65 ex65 => ?_)
          refine lv_iconst (v := 1) hx hb d_B_close_68 (by decide) ?_
          refine lv_isub hx hb d_B_close_69 ?_
          refine lv_topi (fun x69 ex69 => ?_)
          refine zp_L hx hb hts hown hU hi (hts _ k_B_23) d_B_close_70 (fun H locs hU => ?_)
          generalize eg70 : sG (sG g i (nI (k + 1), (g.2.2.2 i).2.1, f)) i (x69, ((sG g i (nI (k + 1), (g.2.2.2 i).2.1, f)).2.2.2 i).2) = g70 at hU
          refine lv_goto (tgt := 42) hx hb d_B_close_73 (by decide) ?_
          rw [← eg70, ex69, ex65, hg1, nI_pred, sG_sG] at hU
          exact ih f _ _ ls (by omega) (by rw [← hv, vl_s, h60, wn_0, Nat.zero_mul, Nat.add_zero]) hU (lv_sub hl [0, 1, 2] rfl)
  have hM : vl (g.2.2.2 i).2.2 n < MM := vl_ltM _ hn
  refine lv_aload_n hx hb d_B_close_0 rfl (lv_at hl 0 rfl) ?_
  refine lv_iload_n hx hb d_B_close_1 rfl (lv_at hl 1 rfl) ?_
  refine zp_L hx hb hts hown hU hi (hts _ k_B_23) d_B_close_2 (fun H locs hU => ?_)
  generalize eg2 : sG g i (nI n, (g.2.2.2 i).2) = g2 at hU
  refine lv_lload_n hx hb d_B_close_5 rfl (lv_at hl 2 rfl) ?_
  refine lv_lconst (v := 0) hx hb d_B_close_6 (by decide) ?_
  refine W.lcmp hx hb d_B_close_7 ?_
  refine lv_if_eq (tgt := 42) hx hb d_B_close_8 (by decide) (fun c8 => ?_) (fun c8 => ?_)
  · have h8 : cr = 0 := (lg_cmp_eq _ _).mp c8
    rw [← eg2] at hU
    exact K n _ _ _ ls hn (by rw [h8, uN_0, Nat.zero_mod, Nat.zero_mul, Nat.add_zero, Nat.mod_eq_of_lt hM]) hU (lv_sub hl [0, 1, 2] rfl)
  · refine lv_aload_n hx hb d_B_close_11 rfl (lv_at hl 0 rfl) ?_
    refine va_get (D := z.1) (ci := 2) (v := .int ((g2.2.2.2 i).1)) (C := R_B) (T := F_B) (N := 3) hx hb hts in_B hown hU.2.1 hU.1 (2 + 2 * i) (uw_o z g2 hi) rfl 1 (by decide) (hts _ k_B_23) (fun _ h9 => h9) rfl d_B_close_12 ?_
    refine lv_topi (fun x12 ex12 => ?_)
    refine lv_sipush (v := 512) hx hb d_B_close_15 (by decide) ?_
    have e12 : x12 = nI n := by rw [ex12, ← eg2, sG_s]
    refine lv_icmp_ge (tgt := 42) hx hb d_B_close_18 (by decide) (fun c18 => ?_) (fun c18 => ?_)
    · have h18 : n = 512 := by
        rw [e12] at c18
        have := (nI_leI (a := 512) (b := n) (by decide) (by omega)).mp c18
        omega
      rw [← eg2] at hU
      exact K n _ _ _ ls hn (by rw [h18, ← MM_def, Nat.add_mul_mod_self_right, Nat.mod_eq_of_lt]; rw [← h18]; exact hM) hU (lv_sub hl [0, 1, 2] rfl)
    · have h18 : n < 512 := Nat.lt_of_not_le (fun q => c18 (by rw [e12]; exact (nI_leI (a := 512) (b := n) (by decide) (by omega)).mpr q))
      refine lv_aload_n hx hb d_B_close_21 rfl (lv_at hl 0 rfl) ?_
      refine va_get (D := z.1) (ci := 2) (v := .ref (rA z i)) (C := R_B) (T := F_B) (N := 3) hx hb hts in_B hown hU.2.1 hU.1 (2 + 2 * i) (uw_o z g2 hi) rfl 0 (by decide) (hts _ k_B_9) (fun _ h9 => h9) rfl d_B_close_22 ?_
      refine lv_aload_n hx hb d_B_close_25 rfl (lv_at hl 0 rfl) ?_
      refine va_get (D := z.1) (ci := 2) (v := .int ((g2.2.2.2 i).1)) (C := R_B) (T := F_B) (N := 3) hx hb hts in_B hown hU.2.1 hU.1 (2 + 2 * i) (uw_o z g2 hi) rfl 1 (by decide) (hts _ k_B_23) (fun _ h9 => h9) rfl d_B_close_26 ?_
      refine lv_topi (fun x26 ex26 => ?_)
      refine lv_lload_n hx hb d_B_close_29 rfl (lv_at hl 2 rfl) ?_
      refine lv_l2i hx hb d_B_close_30 rfl ?_
      refine lv_topi (fun x30 ex30 => ?_)
      have e26 : x26 = nI n := by rw [ex26, ← eg2, sG_s]
      have hin31 : vp_in x26 512 := by rw [e26]; exact vp_in_nI h18 (by decide)
      refine z_iast hx hb hU hi hin31 d_B_close_31 (fun H locs hU => ?_)
      generalize eg31 : sW g2 i (upd (g2.2.2.2 i).2.2 x26.toNatClampNeg x30) = g31 at hU
      refine lv_aload_n hx hb d_B_close_32 rfl (lv_at hl 0 rfl) ?_
      refine lv_dup hx hb d_B_close_33 rfl ?_
      refine va_get (D := z.1) (ci := 2) (v := .int ((g31.2.2.2 i).1)) (C := R_B) (T := F_B) (N := 3) hx hb hts in_B hown hU.2.1 hU.1 (2 + 2 * i) (uw_o z g31 hi) rfl 1 (by decide) (hts _ k_B_23) (fun _ h9 => h9) rfl d_B_close_34 ?_
      refine lv_topi (fun x34 ex34 => ?_)
      refine lv_iconst (v := 1) hx hb d_B_close_37 (by decide) ?_
      refine lv_iadd hx hb d_B_close_38 ?_
      refine lv_topi (fun x38 ex38 => ?_)
      refine zp_L hx hb hts hown hU hi (hts _ k_B_23) d_B_close_39 (fun H locs hU => ?_)
      generalize eg39 : sG g31 i (x38, (g31.2.2.2 i).2) = g39 at hU
      have e34 : x34 = nI n := by rw [ex34, ← eg31, ← eg2, sW_sG, sG_s]
      rw [← eg39, ← eg31, ← eg2, ex38, e34, sW_sG, sG_s, sG_s, sG_sG, e26, nI_clamp (by omega), nI_1] at hU
      exact K (n + 1) _ _ _ ls h18 (by
        rw [vl_upds, ex30, wn_l2i]
        refine (Nat.mod_eq_of_lt ?_).symm
        show vl (g.2.2.2 i).2.2 n + uN cr % 4294967296 * 4294967296 ^ n < MM
        have h2 : (uN cr % 4294967296 + 1) * 4294967296 ^ n ≤ 4294967296 * 4294967296 ^ n := Nat.mul_le_mul_right _ (by omega)
        have h3 : 4294967296 ^ (n + 1) ≤ MM := MM_le h18
        have h4 := vl_lt (g.2.2.2 i).2.2 n
        rw [Nat.add_mul, Nat.one_mul] at h2
        rw [Nat.pow_succ] at h3
        omega) hU (lv_sub hl [0, 1, 2] rfl)
set_option maxHeartbeats 4000000 in
set_option maxRecDepth 100000 in
theorem c_set (l : Launch) (z : ZZ) (sz : Nat) (g : St) {i : Nat} (hi : i < 10) {v : Nat} (hv : v < 2 ^ 31) : Met l y_B_set (zw y_B_set b_B_set 2 none) { frames := 1, cells := 0, slots := 0, locals := 23 } (va_Pc [.ref (oA z i), .int (nI v)] (zI z g sz)) (va_Qv (fun g2 => ∃ b, g2 = sG g i b ∧ bOk b ∧ b.2.1 = 0 ∧ bv b = v) (zO z sz) (zA z sz)) 0 0 (zA z sz) := by
  refine z_ofW (by decide) (Nat.le_of_ble_eq_true rfl) (fun p e s m below meth c hx hb hr hml hown hts hlocks hname hsz hN ls hU hl => ?_)
  have hl : lv_has ls 2 [(0, .ref (oA z i)), (1, .int (nI v))] := hl
  have hbo2 : (0 : Int32) = 0 ∨ (0 : Int32) = 1 := Or.inl rfl
  refine lv_aload_n hx hb d_B_set_0 rfl (lv_at hl 0 rfl) ?_
  refine lv_iconst (v := 0) hx hb d_B_set_1 (by decide) ?_
  refine zp_B hx hb hts hown hU hi (hts _ k_B_15) hbo2 d_B_set_2 (fun H locs hU => ?_)
  generalize eg2 : sG g i ((g.2.2.2 i).1, 0, (g.2.2.2 i).2.2) = g2 at hU
  refine lv_aload_n hx hb d_B_set_5 rfl (lv_at hl 0 rfl) ?_
  refine lv_iconst (v := 0) hx hb d_B_set_6 (by decide) ?_
  refine lv_iload_n hx hb d_B_set_7 rfl (lv_at hl 1 rfl) ?_
  refine lv_i2l hx hb d_B_set_8 rfl ?_
  refine lv_topl (fun x8 ex8 => ?_)
  have e8 : uN x8 = v := by rw [ex8]; exact uN_nI hv
  refine z_callv (z_run (As := [.int 0, .long x8]) (rest := []) hx hb hml hown hts hU hN (c_close l z _ g2 hi (by rw [← eg2, sG_s]; exact Or.inl rfl) (n := 0) (Nat.zero_le _) x8) (w_B_close_cw hts k_B_19 rfl rfl ⟨Nat.le_of_ble_eq_true rfl, Nat.le_of_ble_eq_true rfl⟩) (z_recvB hU hi) rfl hl.1 rfl (lv_room (Nat.le_of_ble_eq_true rfl)) d_B_set_9 ⟨Nat.zero_le _, Nat.zero_le _⟩) hU (fun g3 H locs hp hU => ?_)
  obtain ⟨b, rfl, hb1, hb2, hb3⟩ := hp
  rw [← eg2, sG_sG] at hU
  exact z_vret hx hb hr hlocks hsz hU ⟨b, rfl, hb1, by rw [hb2, ← eg2, sG_s], by
    rw [hb3, e8, Nat.mod_eq_of_lt (a := v) (by omega)]
    show (0 + v * 1) % MM = v
    rw [Nat.zero_add, Nat.mul_one, Nat.mod_eq_of_lt]
    exact Nat.lt_of_lt_of_le (by omega) (MM_le (n := 1) (by decide))⟩ d_B_set_12
set_option maxHeartbeats 4000000 in
set_option maxRecDepth 100000 in
theorem c_setTimes (l : Launch) (z : ZZ) (sz : Nat) (g : St) {i j : Nat} (hi : i < 10) (hj : j < 10) (hij : j ≠ i) (hok : bOk (g.2.2.2 j)) (fc : Int32) : Met l y_B_setTimes (zw y_B_setTimes b_B_setTimes 8 none) { frames := 1, cells := 0, slots := 0, locals := 23 } (va_Pc [.ref (oA z i), .ref (oA z j), .int fc] (zI z g sz)) (va_Qv (fun g2 => ∃ b, g2 = sG g i b ∧ bOk b ∧ b.2.1 = (if (g.2.2.2 j).2.1 = (if fc < 0 then 1 else 0) then 0 else 1) ∧ bv b = fc.toInt.natAbs * bv (g.2.2.2 j) % MM) (zO z sz) (zA z sz)) 0 0 (zA z sz) := by
  refine z_ofW (by decide) (Nat.le_of_ble_eq_true rfl) (fun p e s m below meth c hx hb hr hml hown hts hlocks hname hsz hN ls hU hl => ?_)
  have hl : lv_has ls 8 [(0, .ref (oA z i)), (1, .ref (oA z j)), (2, .int fc)] := hl
  obtain ⟨n, hn, hn1, hbel, htop⟩ := hok
  have hbv : bv (g.2.2.2 j) = vl (g.2.2.2 j).2.2 n := bv_of hn hn1
  generalize eF : (g.2.2.2 j).2.2 = F at hbv
  obtain ⟨N, eN⟩ : ∃ y, y = fc.toInt.natAbs := ⟨_, rfl⟩
  have hN0 : N ≤ 2147483648 := by rw [eN]; exact i32_abs_le fc
  have E85 : ∀ (v : Int32) (f : Nat → Int32) (cr : Int64) (k : Int32) (x2 : Int64) (H : Heap) (locs : List Loc) (ls : Array Slot), (v = 0 ∨ v = 1) → v = (if (g.2.2.2 j).2.1 = (if fc < 0 then 1 else 0) then 0 else 1) → vl f n + uN cr * 4294967296 ^ n = N * vl F n → uN cr < 4294967296 → Ws z (sW g i f) s.heap H locs s → lv_has ls 8 [(0, .ref (oA z i)), (1, .ref (oA z j)), (2, .int fc), (3, .long x2), (5, .long cr), (7, .int k)] → W p l e ({ frames := 1, cells := 0, slots := 0, locals := 23 } : Room) s m ([.ref (oA z i), .ref (oA z j), .int fc] : List Value).toArray below meth c H locs 0 0 (MQ below (va_Qv (fun g2 => ∃ b, g2 = sG g i b ∧ bOk b ∧ b.2.1 = (if (g.2.2.2 j).2.1 = (if fc < 0 then 1 else 0) then 0 else 1) ∧ bv b = fc.toInt.natAbs * bv (g.2.2.2 j) % MM) (zO z sz) (zA z sz)) ([.ref (oA z i), .ref (oA z j), .int fc] : List Value).toArray s 0 0 (zA z sz)) (F0 m 85 ls [.int v, .ref (oA z i)]) := by
    intro v f cr k x2 H locs ls hbo85 hv hI hc hU hl
    refine zp_B hx hb hts hown hU hi (hts _ k_B_15) hbo85 d_B_setTimes_85 (fun H locs hU => ?_)
    generalize eg85 : sG (sW g i f) i (((sW g i f).2.2.2 i).1, v, ((sW g i f).2.2.2 i).2.2) = g85 at hU
    refine lv_aload_n hx hb d_B_setTimes_88 rfl (lv_at hl 0 rfl) ?_
    refine lv_aload_n hx hb d_B_setTimes_89 rfl (lv_at hl 1 rfl) ?_
    refine va_get (D := z.1) (ci := 2) (v := .int ((g85.2.2.2 j).1)) (C := R_B) (T := F_B) (N := 3) hx hb hts in_B hown hU.2.1 hU.1 (2 + 2 * j) (uw_o z g85 hj) rfl 1 (by decide) (hts _ k_B_23) (fun _ h9 => h9) rfl d_B_setTimes_90 ?_
    refine lv_topi (fun x90 ex90 => ?_)
    refine lv_lload hx hb d_B_setTimes_93 (lv_at hl 4 rfl) ?_
    have e90 : x90 = nI n := by rw [ex90, ← eg85, sG_n _ _ hij, sW_n _ _ hij, hn1]
    rw [e90]
    have e85 : (g85.2.2.2 i) = ((g.2.2.2 i).1, v, f) := by rw [← eg85, sG_s, sW_s]
    refine z_callv (z_run (As := [.int (nI n), .long cr]) (rest := []) hx hb hml hown hts hU hN (c_close l z _ g85 hi (by rw [e85]; exact hbo85) hn cr) (w_B_close_cw hts k_B_19 rfl rfl ⟨Nat.le_of_ble_eq_true rfl, Nat.le_of_ble_eq_true rfl⟩) (z_recvB hU hi) rfl hl.1 rfl (lv_room (Nat.le_of_ble_eq_true rfl)) d_B_setTimes_95 ⟨Nat.zero_le _, Nat.zero_le _⟩) hU (fun g3 H locs hp hU => ?_)
    obtain ⟨b, rfl, hb1, hb2, hb3⟩ := hp
    rw [← eg85, sG_sG, sW_eq, sG_sG] at hU
    exact z_vret hx hb hr hlocks hsz hU ⟨b, rfl, hb1, by rw [hb2, e85]; exact hv, by
      rw [hb3, e85, Nat.mod_eq_of_lt hc, ← eN, hbv]
      exact congrArg (· % MM) hI⟩ d_B_setTimes_98
  have K : ∀ (d k : Nat) (f : Nat → Int32) (cr x2 : Int64) (H : Heap) (locs : List Loc) (ls : Array Slot), k + d = n → uN x2 = N → vl f k + uN cr * 4294967296 ^ k = N * vl F k → uN cr < 4294967296 → Ws z (sW g i f) s.heap H locs s → lv_has ls 8 [(0, .ref (oA z i)), (1, .ref (oA z j)), (2, .int fc), (3, .long x2), (5, .long cr), (7, .int (nI k))] → W p l e ({ frames := 1, cells := 0, slots := 0, locals := 23 } : Room) s m ([.ref (oA z i), .ref (oA z j), .int fc] : List Value).toArray below meth c H locs 0 0 (MQ below (va_Qv (fun g2 => ∃ b, g2 = sG g i b ∧ bOk b ∧ b.2.1 = (if (g.2.2.2 j).2.1 = (if fc < 0 then 1 else 0) then 0 else 1) ∧ bv b = fc.toInt.natAbs * bv (g.2.2.2 j) % MM) (zO z sz) (zA z sz)) ([.ref (oA z i), .ref (oA z j), .int fc] : List Value).toArray s 0 0 (zA z sz)) (F0 m 12 ls []) := by
    intro d
    induction d with
    | zero =>
      intro k f cr x2 H locs ls hk h2 hI hc hU hl
      have hk : k = n := by omega
      subst hk
      refine lv_iload hx hb d_B_setTimes_12 (lv_at hl 5 rfl) ?_
      refine lv_aload_n hx hb d_B_setTimes_14 rfl (lv_at hl 1 rfl) ?_
      refine va_get (D := z.1) (ci := 2) (v := .int (((sW g i f).2.2.2 j).1)) (C := R_B) (T := F_B) (N := 3) hx hb hts in_B hown hU.2.1 hU.1 (2 + 2 * j) (uw_o z (sW g i f) hj) rfl 1 (by decide) (hts _ k_B_23) (fun _ h9 => h9) rfl d_B_setTimes_15 ?_
      refine lv_topi (fun x15 ex15 => ?_)
      have e15 : x15 = nI k := by rw [ex15, sW_n _ _ hij, hn1]
      refine lv_icmp_ge (tgt := 63) hx hb d_B_setTimes_18 (by decide) (fun c18 => ?_) (fun c18 => ?_)
      · refine lv_aload_n hx hb d_B_setTimes_63 rfl (lv_at hl 0 rfl) ?_
        refine lv_aload_n hx hb d_B_setTimes_64 rfl (lv_at hl 1 rfl) ?_
        refine va_get (D := z.1) (ci := 2) (v := .int (((sW g i f).2.2.2 j).2.1)) (C := R_B) (T := F_B) (N := 3) hx hb hts in_B hown hU.2.1 hU.1 (2 + 2 * j) (uw_o z (sW g i f) hj) rfl 2 (by decide) (hts _ k_B_15) (fun _ h9 => h9) rfl d_B_setTimes_65 ?_
        refine lv_topi (fun x65 ex65 => ?_)
        refine lv_iload_n hx hb d_B_setTimes_68 rfl (lv_at hl 2 rfl) ?_
        have e65 : x65 = (g.2.2.2 j).2.1 := by rw [ex65, sW_n _ _ hij]
        refine lv_if_ge (tgt := 76) hx hb d_B_setTimes_69 (by decide) (fun c69 => ?_) (fun c69 => ?_)
        · have h69 : ¬ fc < 0 := Int32.not_lt.mpr c69
          refine lv_iconst (v := 0) hx hb d_B_setTimes_76 (by decide) ?_
          refine lv_icmp_eq (tgt := 84) hx hb d_B_setTimes_77 (by decide) (fun c77 => ?_) (fun c77 => ?_)
          · refine lv_iconst (v := 0) hx hb d_B_setTimes_84 (by decide) ?_
            exact E85 0 f cr _ x2 _ _ ls (Or.inl rfl) (by rw [if_neg h69, ← e65, if_pos c77]) hI hc hU hl
          · refine lv_iconst (v := 1) hx hb d_B_setTimes_80 (by decide) ?_
            refine lv_goto (tgt := 85) hx hb d_B_setTimes_81 (by decide) ?_
            exact E85 1 f cr _ x2 _ _ ls (Or.inr rfl) (by rw [if_neg h69, ← e65, if_neg c77]) hI hc hU hl
        · have h69 : fc < 0 := Int32.not_le.mp c69
          refine lv_iconst (v := 1) hx hb d_B_setTimes_72 (by decide) ?_
          refine lv_goto (tgt := 77) hx hb d_B_setTimes_73 (by decide) ?_
          refine lv_icmp_eq (tgt := 84) hx hb d_B_setTimes_77 (by decide) (fun c77 => ?_) (fun c77 => ?_)
          · refine lv_iconst (v := 0) hx hb d_B_setTimes_84 (by decide) ?_
            exact E85 0 f cr _ x2 _ _ ls (Or.inl rfl) (by rw [if_pos h69, ← e65, if_pos c77]) hI hc hU hl
          · refine lv_iconst (v := 1) hx hb d_B_setTimes_80 (by decide) ?_
            refine lv_goto (tgt := 85) hx hb d_B_setTimes_81 (by decide) ?_
            exact E85 1 f cr _ x2 _ _ ls (Or.inr rfl) (by rw [if_pos h69, ← e65, if_neg c77]) hI hc hU hl
      · exact absurd (by rw [e15]; exact Int32.le_refl _) c18
    | succ d ih =>
      intro k f cr x2 H locs ls hk h2 hI hc hU hl
      refine lv_iload hx hb d_B_setTimes_12 (lv_at hl 5 rfl) ?_
      refine lv_aload_n hx hb d_B_setTimes_14 rfl (lv_at hl 1 rfl) ?_
      refine va_get (D := z.1) (ci := 2) (v := .int (((sW g i f).2.2.2 j).1)) (C := R_B) (T := F_B) (N := 3) hx hb hts in_B hown hU.2.1 hU.1 (2 + 2 * j) (uw_o z (sW g i f) hj) rfl 1 (by decide) (hts _ k_B_23) (fun _ h9 => h9) rfl d_B_setTimes_15 ?_
      refine lv_topi (fun x15 ex15 => ?_)
      have e15 : x15 = nI n := by rw [ex15, sW_n _ _ hij, hn1]
      refine lv_icmp_ge (tgt := 63) hx hb d_B_setTimes_18 (by decide) (fun c18 => ?_) (fun c18 => ?_)
      · exact absurd (by rw [e15] at c18; exact c18) (nI_ge (by omega) (by omega))
      · have hin29 : vp_in (nI k) 512 := vp_in_nI (by omega) (by decide)
        have hin49 : vp_in (nI k) 512 := hin29
        refine lv_lload hx hb d_B_setTimes_21 (lv_at hl 4 rfl) ?_
        refine lv_aload_n hx hb d_B_setTimes_23 rfl (lv_at hl 1 rfl) ?_
        refine va_get (D := z.1) (ci := 2) (v := .ref (rA z j)) (C := R_B) (T := F_B) (N := 3) hx hb hts in_B hown hU.2.1 hU.1 (2 + 2 * j) (uw_o z (sW g i f) hj) rfl 0 (by decide) (hts _ k_B_9) (fun _ h9 => h9) rfl d_B_setTimes_24 ?_
        refine lv_iload hx hb d_B_setTimes_27 (lv_at hl 5 rfl) ?_
        refine va_iald hx hb hU.2.1 hU.1 (3 + 2 * j) j (uw_w z (sW g i f) hj) (zty_a z hj) hin29 d_B_setTimes_29 ?_
        refine lv_topi (fun x29 ex29 => ?_)
        refine lv_i2l hx hb d_B_setTimes_30 rfl ?_
        refine lv_topl (fun x30 ex30 => ?_)
        refine lv_ldc2 (v := 4294967295) hx hb hown (hts _ k_B_39) d_B_setTimes_31 ?_
        refine lv_land hx hb d_B_setTimes_34 ?_
        refine lv_topl (fun x34 ex34 => ?_)
        refine lv_lload_n hx hb d_B_setTimes_35 rfl (lv_at hl 3 rfl) ?_
        refine lv_lmul hx hb d_B_setTimes_36 ?_
        refine lv_topl (fun x36 ex36 => ?_)
        refine lv_ladd hx hb d_B_setTimes_37 ?_
        refine lv_topl (fun x37 ex37 => ?_)
        refine lv_lstore (lv' := [(5, .long x37), (0, .ref (oA z i)), (1, .ref (oA z j)), (2, .int fc), (3, .long x2), (7, .int (nI k))]) hx hb d_B_setTimes_38 hl (by decide) rfl (fun ls hl => ?_)
        refine lv_aload_n hx hb d_B_setTimes_40 rfl (lv_at hl 1 rfl) ?_
        refine va_get (D := z.1) (ci := 2) (v := .ref (rA z i)) (C := R_B) (T := F_B) (N := 3) hx hb hts in_B hown hU.2.1 hU.1 (2 + 2 * i) (uw_o z (sW g i f) hi) rfl 0 (by decide) (hts _ k_B_9) (fun _ h9 => h9) rfl d_B_setTimes_41 ?_
        refine lv_iload hx hb d_B_setTimes_44 (lv_at hl 5 rfl) ?_
        refine lv_lload hx hb d_B_setTimes_46 (lv_at hl 0 rfl) ?_
        refine lv_l2i hx hb d_B_setTimes_48 rfl ?_
        refine lv_topi (fun x48 ex48 => ?_)
        refine z_iast hx hb hU hi hin49 d_B_setTimes_49 (fun H locs hU => ?_)
        generalize eg49 : sW (sW g i f) i (upd ((sW g i f).2.2.2 i).2.2 (nI k).toNatClampNeg x48) = g49 at hU
        refine lv_lload hx hb d_B_setTimes_50 (lv_at hl 0 rfl) ?_
        refine lv_bipush (v := 32) hx hb d_B_setTimes_52 (by decide) ?_
        refine lv_lushr hx hb d_B_setTimes_54 rfl ?_
        refine lv_topl (fun x54 ex54 => ?_)
        refine lv_lstore (lv' := [(5, .long x54), (0, .ref (oA z i)), (1, .ref (oA z j)), (2, .int fc), (3, .long x2), (7, .int (nI k))]) hx hb d_B_setTimes_55 hl (by decide) rfl (fun ls hl => ?_)
        obtain ⟨x57, ex57⟩ : ∃ y : Int32, y = (nI k) + Int32.ofInt 1 := ⟨_, rfl⟩
        refine lv_iinc (v := x57) (lv' := [(7, .int x57), (5, .long x54), (0, .ref (oA z i)), (1, .ref (oA z j)), (2, .int fc), (3, .long x2)]) hx hb d_B_setTimes_57 hl (k := 5) rfl (by rw [ex57]) (by decide) rfl (fun ls hl => ?_)
        refine lv_goto (tgt := 12) hx hb d_B_setTimes_60 (by decide) ?_
        have e29 : x29 = F k := by rw [ex29, sW_n _ _ hij, eF, nI_clamp (by omega)]
        have u34 : uN x34 = wn (F k) := by rw [ex34, ex30, e29]; exact uN_w _
        have hw := wn_lt (F k)
        have u36 : uN x36 = wn (F k) * N := by
          rw [ex36, uN_mul', u34, h2]
          rw [u34, h2]
          exact Nat.lt_of_le_of_lt (Nat.mul_le_mul (Nat.le_of_lt hw) hN0) (by decide)
        have b36 : wn (F k) * N ≤ 4294967295 * 2147483648 := Nat.mul_le_mul (by omega) hN0
        have u37 : uN x37 = uN cr + wn (F k) * N := by
          rw [ex37, uN_add', u36]
          rw [u36]
          omega
        have u54 : uN x54 = uN x37 / 4294967296 := by rw [ex54]; exact uN_s32 _
        rw [← eg49, sW_sW, sW_s, nI_clamp (by omega)] at hU
        rw [ex57, show Int32.ofInt 1 = 1 from rfl, nI_1] at hl
        exact ih (k + 1) _ x54 x2 _ _ ls (by omega) h2 (by
          rw [vl_upds, ex48, wn_l2i, u54, Nat.pow_succ]
          exact vl_step (uN x37) hI u37) (by rw [u54]; omega) hU (lv_sub hl [2, 3, 4, 5, 1, 0] rfl)
  refine lv_iload_n hx hb d_B_setTimes_0 rfl (lv_at hl 2 rfl) ?_
  refine lv_i2l hx hb d_B_setTimes_1 rfl ?_
  refine lv_topl (fun x1 ex1 => ?_)
  refine va_mabs_long hx hb (hml.trans hl.1.symm) hown (hts _ k_B_41) (hts _ q_absl_st) (hts _ q_math) (hts _ q_absl_co) (Nat.le_of_ble_eq_true rfl) (Nat.le_of_ble_eq_true rfl) (Nat.zero_le _) (Nat.zero_le _) d_B_setTimes_2 ?_
  refine lv_topl (fun x2 ex2 => ?_)
  refine lv_lstore_n (lv' := [(3, .long x2), (0, .ref (oA z i)), (1, .ref (oA z j)), (2, .int fc)]) hx hb d_B_setTimes_5 rfl hl (by decide) rfl (fun ls hl => ?_)
  refine lv_lconst (v := 0) hx hb d_B_setTimes_6 (by decide) ?_
  refine lv_lstore (lv' := [(5, .long 0), (3, .long x2), (0, .ref (oA z i)), (1, .ref (oA z j)), (2, .int fc)]) hx hb d_B_setTimes_7 hl (by decide) rfl (fun ls hl => ?_)
  refine lv_iconst (v := 0) hx hb d_B_setTimes_9 (by decide) ?_
  refine lv_istore (lv' := [(7, .int 0), (5, .long 0), (3, .long x2), (0, .ref (oA z i)), (1, .ref (oA z j)), (2, .int fc)]) hx hb d_B_setTimes_10 hl (by decide) rfl (fun ls hl => ?_)
  exact K n 0 (g.2.2.2 i).2.2 0 x2 _ _ ls (Nat.zero_add n) (by rw [ex2, ex1, eN]; exact uN_absl fc) rfl (by decide) (by rw [sW_self]; exact hU) (lv_sub hl [3, 4, 5, 2, 1, 0] rfl)
set_option maxHeartbeats 4000000 in
set_option maxRecDepth 100000 in
theorem c_setSum (l : Launch) (z : ZZ) (sz : Nat) (g : St) {i j : Nat} (hi : i < 10) (hj : j < 10) (hij : j ≠ i) {n r : Nat} (hn : n ≤ 512) (hn1 : (g.2.2.2 j).1 = nI n) (hr0 : r ≤ 512) (hr1 : (g.2.2.2 i).1 = nI r) : Met l y_B_setSum (zw y_B_setSum b_B_setSum 7 none) { frames := 1, cells := 0, slots := 0, locals := 23 } (va_Pc [.ref (oA z i), .ref (oA z j), .ref (oA z i)] (zI z g sz)) (va_Qv (fun g2 => ∃ b, g2 = sG g i b ∧ bOk b ∧ b.2.1 = 0 ∧ bv b = (vl (g.2.2.2 j).2.2 n + vl (g.2.2.2 i).2.2 r) % MM) (zO z sz) (zA z sz)) 0 0 (zA z sz) := by
  refine z_ofW (by decide) (Nat.le_of_ble_eq_true rfl) (fun p e s m below meth c hx hb hr hml hown hts hlocks hname hsz hN ls hU hl => ?_)
  have hl : lv_has ls 7 [(0, .ref (oA z i)), (1, .ref (oA z j)), (2, .ref (oA z i))] := hl
  obtain ⟨F, eF⟩ : ∃ y, y = (g.2.2.2 j).2.2 := ⟨_, rfl⟩
  obtain ⟨G, eG⟩ : ∃ y, y = (g.2.2.2 i).2.2 := ⟨_, rfl⟩
  obtain ⟨M, eM⟩ : ∃ y, y = max n r := ⟨_, rfl⟩
  have hM : M ≤ 512 := by omega
  have K : ∀ (d k : Nat) (f : Nat → Int32) (cr : Int64) (H : Heap) (locs : List Loc) (ls : Array Slot), k + d = M → vl f k + uN cr * 4294967296 ^ k = vl (wd F n) k + vl (wd G r) k → uN cr ≤ 1 → (∀ q, k ≤ q → f q = G q) → Ws z (sW g i f) s.heap H locs s → lv_has ls 7 [(0, .ref (oA z i)), (1, .ref (oA z j)), (2, .ref (oA z i)), (3, .int (nI M)), (4, .long cr), (6, .int (nI k))] → W p l e ({ frames := 1, cells := 0, slots := 0, locals := 23 } : Room) s m ([.ref (oA z i), .ref (oA z j), .ref (oA z i)] : List Value).toArray below meth c H locs 0 0 (MQ below (va_Qv (fun g2 => ∃ b, g2 = sG g i b ∧ bOk b ∧ b.2.1 = 0 ∧ bv b = (vl (g.2.2.2 j).2.2 n + vl (g.2.2.2 i).2.2 r) % MM) (zO z sz) (zA z sz)) ([.ref (oA z i), .ref (oA z j), .ref (oA z i)] : List Value).toArray s 0 0 (zA z sz)) (F0 m 18 ls []) := by
    intro d
    induction d with
    | zero =>
      intro k f cr H locs ls hk hI hc hf hU hl
      have hk : k = M := by omega
      subst hk
      refine lv_iload hx hb d_B_setSum_18 (lv_at hl 5 rfl) ?_
      refine lv_iload_n hx hb d_B_setSum_20 rfl (lv_at hl 3 rfl) ?_
      refine lv_icmp_ge (tgt := 75) hx hb d_B_setSum_21 (by decide) (fun c21 => ?_) (fun c21 => ?_)
      · have hbo77 : (0 : Int32) = 0 ∨ (0 : Int32) = 1 := Or.inl rfl
        refine lv_aload_n hx hb d_B_setSum_75 rfl (lv_at hl 0 rfl) ?_
        refine lv_iconst (v := 0) hx hb d_B_setSum_76 (by decide) ?_
        refine zp_B hx hb hts hown hU hi (hts _ k_B_15) hbo77 d_B_setSum_77 (fun H locs hU => ?_)
        generalize eg77 : sG (sW g i f) i (((sW g i f).2.2.2 i).1, 0, ((sW g i f).2.2.2 i).2.2) = g77 at hU
        refine lv_aload_n hx hb d_B_setSum_80 rfl (lv_at hl 0 rfl) ?_
        refine lv_iload_n hx hb d_B_setSum_81 rfl (lv_at hl 3 rfl) ?_
        refine lv_lload hx hb d_B_setSum_82 (lv_at hl 4 rfl) ?_
        have e77 : (g77.2.2.2 i) = ((g.2.2.2 i).1, 0, f) := by rw [← eg77, sG_s, sW_s]
        refine z_callv (z_run (As := [.int (nI k), .long cr]) (rest := []) hx hb hml hown hts hU hN (c_close l z _ g77 hi (by rw [e77]; exact Or.inl rfl) hM cr) (w_B_close_cw hts k_B_19 rfl rfl ⟨Nat.le_of_ble_eq_true rfl, Nat.le_of_ble_eq_true rfl⟩) (z_recvB hU hi) rfl hl.1 rfl (lv_room (Nat.le_of_ble_eq_true rfl)) d_B_setSum_84 ⟨Nat.zero_le _, Nat.zero_le _⟩) hU (fun g3 H locs hp hU => ?_)
        obtain ⟨b, rfl, hb1, hb2, hb3⟩ := hp
        rw [← eg77, sG_sG, sW_eq, sG_sG] at hU
        exact z_vret hx hb hr hlocks hsz hU ⟨b, rfl, hb1, by rw [hb2, e77], by
          rw [hb3, e77, Nat.mod_eq_of_lt (a := uN cr) (by omega)]
          rw [vl_wd (by omega), vl_wd (by omega), eF, eG] at hI
          exact congrArg (· % MM) hI⟩ d_B_setSum_87
      · exact absurd (Int32.le_refl _) c21
    | succ d ih =>
      intro k f cr H locs ls hk hI hc hf hU hl
      refine lv_iload hx hb d_B_setSum_18 (lv_at hl 5 rfl) ?_
      refine lv_iload_n hx hb d_B_setSum_20 rfl (lv_at hl 3 rfl) ?_
      refine lv_icmp_ge (tgt := 75) hx hb d_B_setSum_21 (by decide) (fun c21 => ?_) (fun c21 => ?_)
      · exact absurd c21 (nI_ge (by omega) (by omega))
      · refine lv_lload hx hb d_B_setSum_24 (lv_at hl 4 rfl) ?_
        refine lv_aload_n hx hb d_B_setSum_26 rfl (lv_at hl 1 rfl) ?_
        refine lv_iload hx hb d_B_setSum_27 (lv_at hl 5 rfl) ?_
        refine z_calli (z_run (As := [.int (nI k)]) (rest := [.long cr]) hx hb hml hown hts hU hN (c_wordAt l z _ (sW g i f) hj hn (by rw [sW_n _ _ hij]; exact hn1) (K := k) (by omega)) (w_B_wordAt_cw hts k_B_58 rfl rfl ⟨Nat.le_of_ble_eq_true rfl, Nat.le_of_ble_eq_true rfl⟩) (z_recvB hU hj) rfl hl.1 rfl (lv_room (Nat.le_of_ble_eq_true rfl)) d_B_setSum_29 ⟨Nat.zero_le _, Nat.zero_le _⟩) hU (fun r29 g29 H locs hp29 hU => ?_)
        obtain ⟨rfl, e29⟩ := hp29
        refine lv_i2l hx hb d_B_setSum_32 rfl ?_
        refine lv_topl (fun x32 ex32 => ?_)
        refine lv_ldc2 (v := 4294967295) hx hb hown (hts _ k_B_39) d_B_setSum_33 ?_
        refine lv_land hx hb d_B_setSum_36 ?_
        refine lv_topl (fun x36 ex36 => ?_)
        refine lv_aload_n hx hb d_B_setSum_37 rfl (lv_at hl 2 rfl) ?_
        refine lv_iload hx hb d_B_setSum_38 (lv_at hl 5 rfl) ?_
        refine z_calli (z_run (As := [.int (nI k)]) (rest := [.long x36, .long cr]) hx hb hml hown hts hU hN (c_wordAt l z _ (sW g i f) hi hr0 (by rw [sW_s]; exact hr1) (K := k) (by omega)) (w_B_wordAt_cw hts k_B_58 rfl rfl ⟨Nat.le_of_ble_eq_true rfl, Nat.le_of_ble_eq_true rfl⟩) (z_recvB hU hi) rfl hl.1 rfl (lv_room (Nat.le_of_ble_eq_true rfl)) d_B_setSum_40 ⟨Nat.zero_le _, Nat.zero_le _⟩) hU (fun r40 g40 H locs hp40 hU => ?_)
        obtain ⟨rfl, e40⟩ := hp40
        have hin61 : vp_in (nI k) 512 := vp_in_nI (by omega) (by decide)
        refine lv_i2l hx hb d_B_setSum_43 rfl ?_
        refine lv_topl (fun x43 ex43 => ?_)
        refine lv_ldc2 (v := 4294967295) hx hb hown (hts _ k_B_39) d_B_setSum_44 ?_
        refine lv_land hx hb d_B_setSum_47 ?_
        refine lv_topl (fun x47 ex47 => ?_)
        refine lv_ladd hx hb d_B_setSum_48 ?_
        refine lv_topl (fun x48 ex48 => ?_)
        refine lv_ladd hx hb d_B_setSum_49 ?_
        refine lv_topl (fun x49 ex49 => ?_)
        refine lv_lstore (lv' := [(4, .long x49), (0, .ref (oA z i)), (1, .ref (oA z j)), (2, .ref (oA z i)), (3, .int (nI M)), (6, .int (nI k))]) hx hb d_B_setSum_50 hl (by decide) rfl (fun ls hl => ?_)
        refine lv_aload_n hx hb d_B_setSum_52 rfl (lv_at hl 1 rfl) ?_
        refine va_get (D := z.1) (ci := 2) (v := .ref (rA z i)) (C := R_B) (T := F_B) (N := 3) hx hb hts in_B hown hU.2.1 hU.1 (2 + 2 * i) (uw_o z (sW g i f) hi) rfl 0 (by decide) (hts _ k_B_9) (fun _ h9 => h9) rfl d_B_setSum_53 ?_
        refine lv_iload hx hb d_B_setSum_56 (lv_at hl 5 rfl) ?_
        refine lv_lload hx hb d_B_setSum_58 (lv_at hl 0 rfl) ?_
        refine lv_l2i hx hb d_B_setSum_60 rfl ?_
        refine lv_topi (fun x60 ex60 => ?_)
        refine z_iast hx hb hU hi hin61 d_B_setSum_61 (fun H locs hU => ?_)
        generalize eg61 : sW (sW g i f) i (upd ((sW g i f).2.2.2 i).2.2 (nI k).toNatClampNeg x60) = g61 at hU
        refine lv_lload hx hb d_B_setSum_62 (lv_at hl 0 rfl) ?_
        refine lv_bipush (v := 32) hx hb d_B_setSum_64 (by decide) ?_
        refine lv_lushr hx hb d_B_setSum_66 rfl ?_
        refine lv_topl (fun x66 ex66 => ?_)
        refine lv_lstore (lv' := [(4, .long x66), (0, .ref (oA z i)), (1, .ref (oA z j)), (2, .ref (oA z i)), (3, .int (nI M)), (6, .int (nI k))]) hx hb d_B_setSum_67 hl (by decide) rfl (fun ls hl => ?_)
        obtain ⟨x69, ex69⟩ : ∃ y : Int32, y = (nI k) + Int32.ofInt 1 := ⟨_, rfl⟩
        refine lv_iinc (v := x69) (lv' := [(6, .int x69), (4, .long x66), (0, .ref (oA z i)), (1, .ref (oA z j)), (2, .ref (oA z i)), (3, .int (nI M))]) hx hb d_B_setSum_69 hl (k := 5) rfl (by rw [ex69]) (by decide) rfl (fun ls hl => ?_)
        refine lv_goto (tgt := 18) hx hb d_B_setSum_72 (by decide) ?_
        have a1 : r29 = wd F n k := by rw [e29, sW_n _ _ hij, eF]
        have a2 : r40 = wd G r k := by
          rw [e40, sW_s]
          show wd f r k = wd G r k
          unfold wd
          rw [hf k (Nat.le_refl k)]
        have u36 : uN x36 = wn (wd F n k) := by rw [ex36, ex32, a1]; exact uN_w _
        have u47 : uN x47 = wn (wd G r k) := by rw [ex47, ex43, a2]; exact uN_w _
        have w1 := wn_lt (wd F n k)
        have w2 := wn_lt (wd G r k)
        have u48 : uN x48 = wn (wd F n k) + wn (wd G r k) := by
          rw [ex48, uN_add', u36, u47]
          rw [u36, u47]; omega
        have u49 : uN x49 = uN cr + (wn (wd F n k) + wn (wd G r k)) := by
          rw [ex49, uN_add', u48]
          rw [u48]; omega
        have u66 : uN x66 = uN x49 / 4294967296 := by rw [ex66]; exact uN_s32 _
        rw [← eg61, sW_sW, sW_s, nI_clamp (by omega)] at hU
        rw [ex69, show Int32.ofInt 1 = 1 from rfl, nI_1] at hl
        exact ih (k + 1) _ x66 _ _ ls (by omega) (by
          rw [vl_upds, ex60, wn_l2i, u66, Nat.pow_succ, vl_s, vl_s]
          exact vl_stepA (uN x49) hI u49) (by rw [u66]; omega) (fun q hq => by rw [pk_un (by omega)]; exact hf q (by omega)) hU (lv_sub hl [2, 3, 4, 5, 1, 0] rfl)
  refine lv_aload_n hx hb d_B_setSum_0 rfl (lv_at hl 1 rfl) ?_
  refine va_get (D := z.1) (ci := 2) (v := .int ((g.2.2.2 j).1)) (C := R_B) (T := F_B) (N := 3) hx hb hts in_B hown hU.2.1 hU.1 (2 + 2 * j) (uw_o z g hj) rfl 1 (by decide) (hts _ k_B_23) (fun _ h9 => h9) rfl d_B_setSum_1 ?_
  refine lv_topi (fun x1 ex1 => ?_)
  refine lv_aload_n hx hb d_B_setSum_4 rfl (lv_at hl 2 rfl) ?_
  refine va_get (D := z.1) (ci := 2) (v := .int ((g.2.2.2 i).1)) (C := R_B) (T := F_B) (N := 3) hx hb hts in_B hown hU.2.1 hU.1 (2 + 2 * i) (uw_o z g hi) rfl 1 (by decide) (hts _ k_B_23) (fun _ h9 => h9) rfl d_B_setSum_5 ?_
  refine lv_topi (fun x5 ex5 => ?_)
  refine va_mmax hx hb (hml.trans hl.1.symm) hown (hts _ k_B_55) (hts _ q_max_st) (hts _ q_math) (hts _ q_max_co) (Nat.le_of_ble_eq_true rfl) (Nat.le_of_ble_eq_true rfl) (Nat.zero_le _) (Nat.zero_le _) d_B_setSum_8 ?_
  refine lv_topi (fun x8 ex8 => ?_)
  refine lv_istore_n (lv' := [(3, .int x8), (0, .ref (oA z i)), (1, .ref (oA z j)), (2, .ref (oA z i))]) hx hb d_B_setSum_11 rfl hl (by decide) rfl (fun ls hl => ?_)
  refine lv_lconst (v := 0) hx hb d_B_setSum_12 (by decide) ?_
  refine lv_lstore (lv' := [(4, .long 0), (3, .int x8), (0, .ref (oA z i)), (1, .ref (oA z j)), (2, .ref (oA z i))]) hx hb d_B_setSum_13 hl (by decide) rfl (fun ls hl => ?_)
  refine lv_iconst (v := 0) hx hb d_B_setSum_15 (by decide) ?_
  refine lv_istore (lv' := [(6, .int 0), (4, .long 0), (3, .int x8), (0, .ref (oA z i)), (1, .ref (oA z j)), (2, .ref (oA z i))]) hx hb d_B_setSum_16 hl (by decide) rfl (fun ls hl => ?_)
  have e8 : x8 = nI M := by
    rw [ex8, ex1, ex5, hn1, hr1, eM]
    exact max_nI (by omega) (by omega)
  rw [e8] at hl
  exact K M 0 G 0 _ _ ls (Nat.zero_add M) rfl (by decide) (fun _ _ => rfl) (by rw [eG, sW_self]; exact hU) (lv_sub hl [3, 4, 5, 2, 1, 0] rfl)
set_option maxHeartbeats 4000000 in
set_option maxRecDepth 100000 in
theorem c_isLess (l : Launch) (z : ZZ) (sz : Nat) (g : St) {i j : Nat} (hi : i < 10) (hj : j < 10) (hok : bOk (g.2.2.2 i)) (hok2 : bOk (g.2.2.2 j)) : Met l y_B_isLess (zw y_B_isLess b_B_isLess 3 (some .boolean)) { frames := 0, cells := 0, slots := 0, locals := 0 } (va_Pc [.ref (oA z i), .ref (oA z j)] (zI z g sz)) (va_Qi (fun r g2 => g2 = g ∧ r = (if bv (g.2.2.2 i) < bv (g.2.2.2 j) then 1 else 0)) (zO z sz) (zA z sz)) 0 0 (zA z sz) := by
  refine z_ofW (by decide) (Nat.le_of_ble_eq_true rfl) (fun p e s m below meth c hx hb hr hml hown hts hlocks hname hsz hN ls hU hl => ?_)
  have hl : lv_has ls 3 [(0, .ref (oA z i)), (1, .ref (oA z j))] := hl
  obtain ⟨n, hn, hn1, hbel, htop⟩ := hok
  have hbv : bv (g.2.2.2 i) = vl (g.2.2.2 i).2.2 n := bv_of hn hn1
  obtain ⟨r, hr0, hr1, hrbel, hrtop⟩ := hok2
  have hbr : bv (g.2.2.2 j) = vl (g.2.2.2 j).2.2 r := bv_of hr0 hr1
  generalize eF : (g.2.2.2 i).2.2 = F at hbv htop
  generalize eG : (g.2.2.2 j).2.2 = G at hbr hrtop
  have K : ∀ (k : Nat) (H : Heap) (locs : List Loc) (ls : Array Slot), n = r → k ≤ n → (vl F n < vl G n ↔ vl F k < vl G k) → Ws z g s.heap H locs s → lv_has ls 3 [(0, .ref (oA z i)), (1, .ref (oA z j)), (2, .int (nI k - 1))] → W p l e ({ frames := 0, cells := 0, slots := 0, locals := 0 } : Room) s m ([.ref (oA z i), .ref (oA z j)] : List Value).toArray below meth c H locs 0 0 (MQ below (va_Qi (fun r g2 => g2 = g ∧ r = (if bv (g.2.2.2 i) < bv (g.2.2.2 j) then 1 else 0)) (zO z sz) (zA z sz)) ([.ref (oA z i), .ref (oA z j)] : List Value).toArray s 0 0 (zA z sz)) (F0 m 35 ls []) := by
    intro k
    induction k with
    | zero =>
      intro H locs ls hnr hk hI hU hl
      refine lv_iload_n hx hb d_B_isLess_35 rfl (lv_at hl 2 rfl) ?_
      refine lv_if_lt (tgt := 92) hx hb d_B_isLess_36 (by decide) (fun c36 => ?_) (fun c36 => ?_)
      · refine lv_iconst (v := 0) hx hb d_B_isLess_92 (by decide) ?_
        exact z_zret hx hb hr hlocks hsz hU (Or.inl rfl) ⟨rfl, by rw [hbv, hbr, ← hnr, if_neg]; rw [hI]; exact Nat.lt_irrefl _⟩ d_B_isLess_93
      · exact absurd (by decide) c36
    | succ k ih =>
      intro H locs ls hnr hk hI hU hl
      rw [nI_pred] at hl
      refine lv_iload_n hx hb d_B_isLess_35 rfl (lv_at hl 2 rfl) ?_
      refine lv_if_lt (tgt := 92) hx hb d_B_isLess_36 (by decide) (fun c36 => ?_) (fun c36 => ?_)
      · exact absurd c36 (nI_pos (by omega))
      · have hin44 : vp_in (nI k) 512 := vp_in_nI (by omega) (by decide)
        have hin50 := hin44
        have hin59 := hin44
        have hin70 := hin44
        refine lv_aload_n hx hb d_B_isLess_39 rfl (lv_at hl 0 rfl) ?_
        refine va_get (D := z.1) (ci := 2) (v := .ref (rA z i)) (C := R_B) (T := F_B) (N := 3) hx hb hts in_B hown hU.2.1 hU.1 (2 + 2 * i) (uw_o z g hi) rfl 0 (by decide) (hts _ k_B_9) (fun _ h9 => h9) rfl d_B_isLess_40 ?_
        refine lv_iload_n hx hb d_B_isLess_43 rfl (lv_at hl 2 rfl) ?_
        refine va_iald hx hb hU.2.1 hU.1 (3 + 2 * i) i (uw_w z g hi) (zty_a z hi) hin44 d_B_isLess_44 ?_
        refine lv_topi (fun x44 ex44 => ?_)
        refine lv_aload_n hx hb d_B_isLess_45 rfl (lv_at hl 1 rfl) ?_
        refine va_get (D := z.1) (ci := 2) (v := .ref (rA z j)) (C := R_B) (T := F_B) (N := 3) hx hb hts in_B hown hU.2.1 hU.1 (2 + 2 * j) (uw_o z g hj) rfl 0 (by decide) (hts _ k_B_9) (fun _ h9 => h9) rfl d_B_isLess_46 ?_
        refine lv_iload_n hx hb d_B_isLess_49 rfl (lv_at hl 2 rfl) ?_
        refine va_iald hx hb hU.2.1 hU.1 (3 + 2 * j) j (uw_w z g hj) (zty_a z hj) hin50 d_B_isLess_50 ?_
        refine lv_topi (fun x50 ex50 => ?_)
        have e44 : x44 = F k := by rw [ex44, nI_clamp (by omega), eF]
        have e50 : x50 = G k := by rw [ex50, nI_clamp (by omega), eG]
        refine lv_icmp_eq (tgt := 86) hx hb d_B_isLess_51 (by decide) (fun c51 => ?_) (fun c51 => ?_)
        · have h51 : F k = G k := by rw [← e44, ← e50]; exact c51
          obtain ⟨x86, ex86⟩ : ∃ y : Int32, y = (nI k) + Int32.ofInt (-1) := ⟨_, rfl⟩
          refine lv_iinc (v := x86) (lv' := [(2, .int x86), (0, .ref (oA z i)), (1, .ref (oA z j))]) hx hb d_B_isLess_86 hl (k := 2) rfl (by rw [ex86]) (by decide) rfl (fun ls hl => ?_)
          refine lv_goto (tgt := 35) hx hb d_B_isLess_89 (by decide) ?_
          rw [ex86, show Int32.ofInt (-1) = -1 from rfl, ← Int32.sub_eq_add_neg] at hl
          exact ih _ _ ls hnr (by omega) (hI.trans (by rw [vl_s, vl_s, h51]; exact Nat.add_lt_add_iff_right)) hU (lv_sub hl [1, 2, 0] rfl)
        · have h51 : wn (F k) ≠ wn (G k) := fun q => c51 (by rw [e44, e50]; exact wn_inj q)
          have l1 := vl_lt F k
          have l2 := vl_lt G k
          refine lv_aload_n hx hb d_B_isLess_54 rfl (lv_at hl 0 rfl) ?_
          refine va_get (D := z.1) (ci := 2) (v := .ref (rA z i)) (C := R_B) (T := F_B) (N := 3) hx hb hts in_B hown hU.2.1 hU.1 (2 + 2 * i) (uw_o z g hi) rfl 0 (by decide) (hts _ k_B_9) (fun _ h9 => h9) rfl d_B_isLess_55 ?_
          refine lv_iload_n hx hb d_B_isLess_58 rfl (lv_at hl 2 rfl) ?_
          refine va_iald hx hb hU.2.1 hU.1 (3 + 2 * i) i (uw_w z g hi) (zty_a z hi) hin59 d_B_isLess_59 ?_
          refine lv_topi (fun x59 ex59 => ?_)
          refine lv_i2l hx hb d_B_isLess_60 rfl ?_
          refine lv_topl (fun x60 ex60 => ?_)
          refine lv_ldc2 (v := 4294967295) hx hb hown (hts _ k_B_39) d_B_isLess_61 ?_
          refine lv_land hx hb d_B_isLess_64 ?_
          refine lv_topl (fun x64 ex64 => ?_)
          refine lv_aload_n hx hb d_B_isLess_65 rfl (lv_at hl 1 rfl) ?_
          refine va_get (D := z.1) (ci := 2) (v := .ref (rA z j)) (C := R_B) (T := F_B) (N := 3) hx hb hts in_B hown hU.2.1 hU.1 (2 + 2 * j) (uw_o z g hj) rfl 0 (by decide) (hts _ k_B_9) (fun _ h9 => h9) rfl d_B_isLess_66 ?_
          refine lv_iload_n hx hb d_B_isLess_69 rfl (lv_at hl 2 rfl) ?_
          refine va_iald hx hb hU.2.1 hU.1 (3 + 2 * j) j (uw_w z g hj) (zty_a z hj) hin70 d_B_isLess_70 ?_
          refine lv_topi (fun x70 ex70 => ?_)
          refine lv_i2l hx hb d_B_isLess_71 rfl ?_
          refine lv_topl (fun x71 ex71 => ?_)
          refine lv_ldc2 (v := 4294967295) hx hb hown (hts _ k_B_39) d_B_isLess_72 ?_
          refine lv_land hx hb d_B_isLess_75 ?_
          refine lv_topl (fun x75 ex75 => ?_)
          refine W.lcmp hx hb d_B_isLess_76 ?_
          have u64 : uN x64 = wn (F k) := by rw [ex64, ex60, ex59, nI_clamp (by omega), eF]; exact uN_w _
          have u75 : uN x75 = wn (G k) := by rw [ex75, ex71, ex70, nI_clamp (by omega), eG]; exact uN_w _
          have w1 := wn_lt (F k)
          have w2 := wn_lt (G k)
          have t64 := uN_int x64
          have t75 := uN_int x75
          rw [if_pos (by omega)] at t64 t75
          refine lv_if_ge (tgt := 84) hx hb d_B_isLess_77 (by decide) (fun c77 => ?_) (fun c77 => ?_)
          · have h77 : ¬ wn (F k) < wn (G k) := by
              have q : x75 ≤ x64 := (lg_cmp_ge _ _).mp c77
              rw [Int64.le_iff_toInt_le] at q
              omega
            refine lv_iconst (v := 0) hx hb d_B_isLess_84 (by decide) ?_
            exact z_zret hx hb hr hlocks hsz hU (Or.inl rfl) ⟨rfl, by rw [hbv, hbr, ← hnr, if_neg]; rw [hI, vl_s, vl_s]; exact vl_cmp1 l1 l2 (by omega)⟩ d_B_isLess_85
          · have h77 : wn (F k) < wn (G k) := by
              have q : ¬ x75 ≤ x64 := fun q => c77 ((lg_cmp_ge _ _).mpr q)
              rw [Int64.le_iff_toInt_le] at q
              omega
            refine lv_iconst (v := 1) hx hb d_B_isLess_80 (by decide) ?_
            refine lv_goto (tgt := 85) hx hb d_B_isLess_81 (by decide) ?_
            exact z_zret hx hb hr hlocks hsz hU (Or.inr rfl) ⟨rfl, by rw [hbv, hbr, ← hnr, if_pos]; rw [hI, vl_s, vl_s]; exact vl_cmp2 l1 h77⟩ d_B_isLess_85
  refine lv_aload_n hx hb d_B_isLess_0 rfl (lv_at hl 0 rfl) ?_
  refine va_get (D := z.1) (ci := 2) (v := .int ((g.2.2.2 i).1)) (C := R_B) (T := F_B) (N := 3) hx hb hts in_B hown hU.2.1 hU.1 (2 + 2 * i) (uw_o z g hi) rfl 1 (by decide) (hts _ k_B_23) (fun _ h9 => h9) rfl d_B_isLess_1 ?_
  refine lv_topi (fun x1 ex1 => ?_)
  refine lv_aload_n hx hb d_B_isLess_4 rfl (lv_at hl 1 rfl) ?_
  refine va_get (D := z.1) (ci := 2) (v := .int ((g.2.2.2 j).1)) (C := R_B) (T := F_B) (N := 3) hx hb hts in_B hown hU.2.1 hU.1 (2 + 2 * j) (uw_o z g hj) rfl 1 (by decide) (hts _ k_B_23) (fun _ h9 => h9) rfl d_B_isLess_5 ?_
  refine lv_topi (fun x5 ex5 => ?_)
  refine lv_icmp_eq (tgt := 28) hx hb d_B_isLess_8 (by decide) (fun c8 => ?_) (fun c8 => ?_)
  · have hnr : n = r := (nI_eq (by omega) (by omega)).mp (by rw [← hn1, ← hr1, ← ex1, ← ex5]; exact c8)
    refine lv_aload_n hx hb d_B_isLess_28 rfl (lv_at hl 0 rfl) ?_
    refine va_get (D := z.1) (ci := 2) (v := .int ((g.2.2.2 i).1)) (C := R_B) (T := F_B) (N := 3) hx hb hts in_B hown hU.2.1 hU.1 (2 + 2 * i) (uw_o z g hi) rfl 1 (by decide) (hts _ k_B_23) (fun _ h9 => h9) rfl d_B_isLess_29 ?_
    refine lv_topi (fun x29 ex29 => ?_)
    refine lv_iconst (v := 1) hx hb d_B_isLess_32 (by decide) ?_
    refine lv_isub hx hb d_B_isLess_33 ?_
    refine lv_topi (fun x33 ex33 => ?_)
    refine lv_istore_n (lv' := [(2, .int x33), (0, .ref (oA z i)), (1, .ref (oA z j))]) hx hb d_B_isLess_34 rfl hl (by decide) rfl (fun ls hl => ?_)
    rw [ex33, ex29, hn1] at hl
    exact K n _ _ ls hnr (Nat.le_refl n) Iff.rfl hU (lv_sub hl [1, 2, 0] rfl)
  · have hnr : n ≠ r := fun q => c8 (by rw [ex1, ex5, hn1, hr1, q])
    refine lv_aload_n hx hb d_B_isLess_11 rfl (lv_at hl 0 rfl) ?_
    refine va_get (D := z.1) (ci := 2) (v := .int ((g.2.2.2 i).1)) (C := R_B) (T := F_B) (N := 3) hx hb hts in_B hown hU.2.1 hU.1 (2 + 2 * i) (uw_o z g hi) rfl 1 (by decide) (hts _ k_B_23) (fun _ h9 => h9) rfl d_B_isLess_12 ?_
    refine lv_topi (fun x12 ex12 => ?_)
    refine lv_aload_n hx hb d_B_isLess_15 rfl (lv_at hl 1 rfl) ?_
    refine va_get (D := z.1) (ci := 2) (v := .int ((g.2.2.2 j).1)) (C := R_B) (T := F_B) (N := 3) hx hb hts in_B hown hU.2.1 hU.1 (2 + 2 * j) (uw_o z g hj) rfl 1 (by decide) (hts _ k_B_23) (fun _ h9 => h9) rfl d_B_isLess_16 ?_
    refine lv_topi (fun x16 ex16 => ?_)
    refine lv_icmp_ge (tgt := 26) hx hb d_B_isLess_19 (by decide) (fun c19 => ?_) (fun c19 => ?_)
    · have h19 : r < n := by
        have := (nI_leI (by omega) (by omega)).mp (show nI r ≤ nI n by rw [← hn1, ← hr1, ← ex12, ← ex16]; exact c19)
        omega
      refine lv_iconst (v := 0) hx hb d_B_isLess_26 (by decide) ?_
      exact z_zret hx hb hr hlocks hsz hU (Or.inl rfl) ⟨rfl, by rw [hbv, hbr, if_neg]; exact Nat.not_lt.mpr (Nat.le_of_lt (vl_len h19 (htop.resolve_left (by omega))))⟩ d_B_isLess_27
    · have h19 : n < r := by
        have h : ¬ r ≤ n := fun q => c19 (by rw [ex12, ex16, hn1, hr1]; exact (nI_leI (by omega) (by omega)).mpr q)
        omega
      refine lv_iconst (v := 1) hx hb d_B_isLess_22 (by decide) ?_
      refine lv_goto (tgt := 27) hx hb d_B_isLess_23 (by decide) ?_
      exact z_zret hx hb hr hlocks hsz hU (Or.inr rfl) ⟨rfl, by rw [hbv, hbr, if_pos]; exact vl_len h19 (hrtop.resolve_left (by omega))⟩ d_B_isLess_27
end
section
/-! UnitFinder$Big, the rest -/
set_option maxHeartbeats 4000000 in
set_option maxRecDepth 100000 in
theorem c_setDifference (l : Launch) (z : ZZ) (sz : Nat) (g : St) {i j k : Nat} (hi : i < 10) (hj : j < 10) (hk : k < 10) (hij : j ≠ i) (hik : k ≠ i) (hok : bOk (g.2.2.2 j)) (hok2 : bOk (g.2.2.2 k)) : Met l y_B_setDifference (zw y_B_setDifference b_B_setDifference 9 none) { frames := 1, cells := 0, slots := 0, locals := 23 } (va_Pc [.ref (oA z i), .ref (oA z j), .ref (oA z k)] (zI z g sz)) (va_Qv (fun g2 => ∃ b, g2 = sG g i b ∧ bOk b ∧ b.2.1 = (if bv (g.2.2.2 j) < bv (g.2.2.2 k) then 1 else 0) ∧ bv b = (if bv (g.2.2.2 j) < bv (g.2.2.2 k) then bv (g.2.2.2 k) - bv (g.2.2.2 j) else bv (g.2.2.2 j) - bv (g.2.2.2 k))) (zO z sz) (zA z sz)) 0 0 (zA z sz) := by
  refine z_ofW (by decide) (Nat.le_of_ble_eq_true rfl) (fun p e s m below meth c hx hb hr hml hown hts hlocks hname hsz hN ls hU hl => ?_)
  have hl : lv_has ls 9 [(0, .ref (oA z i)), (1, .ref (oA z j)), (2, .ref (oA z k))] := hl
  have E : ∀ (a b : Nat) (x3 : Int32) (H : Heap) (locs : List Loc) (ls : Array Slot), a < 10 → b < 10 → a ≠ i → b ≠ i → bOk (g.2.2.2 a) → bOk (g.2.2.2 b) → bv (g.2.2.2 b) ≤ bv (g.2.2.2 a) → (x3 = 0 ∨ x3 = 1) → x3 = (if bv (g.2.2.2 j) < bv (g.2.2.2 k) then 1 else 0) → bv (g.2.2.2 a) - bv (g.2.2.2 b) = (if bv (g.2.2.2 j) < bv (g.2.2.2 k) then bv (g.2.2.2 k) - bv (g.2.2.2 j) else bv (g.2.2.2 j) - bv (g.2.2.2 k)) → Ws z g s.heap H locs s → lv_has ls 9 [(0, .ref (oA z i)), (1, .ref (oA z j)), (2, .ref (oA z k)), (3, .int x3), (4, .ref (oA z a)), (5, .ref (oA z b))] → W p l e ({ frames := 1, cells := 0, slots := 0, locals := 23 } : Room) s m ([.ref (oA z i), .ref (oA z j), .ref (oA z k)] : List Value).toArray below meth c H locs 0 0 (MQ below (va_Qv (fun g2 => ∃ b, g2 = sG g i b ∧ bOk b ∧ b.2.1 = (if bv (g.2.2.2 j) < bv (g.2.2.2 k) then 1 else 0) ∧ bv b = (if bv (g.2.2.2 j) < bv (g.2.2.2 k) then bv (g.2.2.2 k) - bv (g.2.2.2 j) else bv (g.2.2.2 j) - bv (g.2.2.2 k))) (zO z sz) (zA z sz)) ([.ref (oA z i), .ref (oA z j), .ref (oA z k)] : List Value).toArray s 0 0 (zA z sz)) (F0 m 28 ls []) := by
    intro a b x3 H locs ls ha hb0 hia hib hoka hokb hle hbo e3 eAB hU hl
    obtain ⟨n, hn, hn1, hbel, htop⟩ := hoka
    have hbv : bv (g.2.2.2 a) = vl (g.2.2.2 a).2.2 n := bv_of hn hn1
    obtain ⟨r, hr0, hr1, hrbel, hrtop⟩ := hokb
    have hbr : bv (g.2.2.2 b) = vl (g.2.2.2 b).2.2 r := bv_of hr0 hr1
    generalize eF : (g.2.2.2 a).2.2 = F at hbv htop
    generalize eG : (g.2.2.2 b).2.2 = G at hbr hrtop
    have hrn : r ≤ n := by
      rcases Nat.lt_or_ge n r with h | h
      · have := vl_len (f := F) h (hrtop.resolve_left (by omega))
        omega
      · exact h
    have K : ∀ (d q : Nat) (f : Nat → Int32) (cr : Int64) (H : Heap) (locs : List Loc) (ls : Array Slot), q + d = n → (vl f q : Int) + cr.toInt * (4294967296 ^ q : Nat) = (vl F q : Int) - (vl (wd G r) q : Int) → (cr.toInt = 0 ∨ cr.toInt = -1) → Ws z (sW g i f) s.heap H locs s → lv_has ls 9 [(0, .ref (oA z i)), (1, .ref (oA z j)), (2, .ref (oA z k)), (3, .int x3), (4, .ref (oA z a)), (5, .ref (oA z b)), (6, .long cr), (8, .int (nI q))] → W p l e ({ frames := 1, cells := 0, slots := 0, locals := 23 } : Room) s m ([.ref (oA z i), .ref (oA z j), .ref (oA z k)] : List Value).toArray below meth c H locs 0 0 (MQ below (va_Qv (fun g2 => ∃ b, g2 = sG g i b ∧ bOk b ∧ b.2.1 = (if bv (g.2.2.2 j) < bv (g.2.2.2 k) then 1 else 0) ∧ bv b = (if bv (g.2.2.2 j) < bv (g.2.2.2 k) then bv (g.2.2.2 k) - bv (g.2.2.2 j) else bv (g.2.2.2 j) - bv (g.2.2.2 k))) (zO z sz) (zA z sz)) ([.ref (oA z i), .ref (oA z j), .ref (oA z k)] : List Value).toArray s 0 0 (zA z sz)) (F0 m 34 ls []) := by
      intro d
      induction d with
      | zero =>
        intro q f cr H locs ls hq hI hc hU hl
        have hq : q = n := by omega
        subst hq
        refine lv_iload hx hb d_B_setDifference_34 (lv_at hl 7 rfl) ?_
        refine lv_aload hx hb d_B_setDifference_36 (lv_at hl 4 rfl) ?_
        refine va_get (D := z.1) (ci := 2) (v := .int (((sW g i f).2.2.2 a).1)) (C := R_B) (T := F_B) (N := 3) hx hb hts in_B hown hU.2.1 hU.1 (2 + 2 * a) (uw_o z (sW g i f) ha) rfl 1 (by decide) (hts _ k_B_23) (fun _ h9 => h9) rfl d_B_setDifference_38 ?_
        refine lv_topi (fun x38 ex38 => ?_)
        have e38 : x38 = nI q := by rw [ex38, sW_n _ _ hia, hn1]
        refine lv_icmp_ge (tgt := 98) hx hb d_B_setDifference_41 (by decide) (fun c41 => ?_) (fun c41 => ?_)
        · have hbo100 := hbo
          refine lv_aload_n hx hb d_B_setDifference_98 rfl (lv_at hl 0 rfl) ?_
          refine lv_iload_n hx hb d_B_setDifference_99 rfl (lv_at hl 3 rfl) ?_
          refine zp_B hx hb hts hown hU hi (hts _ k_B_15) hbo100 d_B_setDifference_100 (fun H locs hU => ?_)
          generalize eg100 : sG (sW g i f) i (((sW g i f).2.2.2 i).1, x3, ((sW g i f).2.2.2 i).2.2) = g100 at hU
          refine lv_aload_n hx hb d_B_setDifference_103 rfl (lv_at hl 0 rfl) ?_
          refine lv_aload hx hb d_B_setDifference_104 (lv_at hl 4 rfl) ?_
          refine va_get (D := z.1) (ci := 2) (v := .int ((g100.2.2.2 a).1)) (C := R_B) (T := F_B) (N := 3) hx hb hts in_B hown hU.2.1 hU.1 (2 + 2 * a) (uw_o z g100 ha) rfl 1 (by decide) (hts _ k_B_23) (fun _ h9 => h9) rfl d_B_setDifference_106 ?_
          refine lv_topi (fun x106 ex106 => ?_)
          refine lv_lconst (v := 0) hx hb d_B_setDifference_109 (by decide) ?_
          have e100 : (g100.2.2.2 i) = ((g.2.2.2 i).1, x3, f) := by rw [← eg100, sG_s, sW_s]
          have e106 : x106 = nI q := by rw [ex106, ← eg100, sG_n _ _ hia, sW_n _ _ hia, hn1]
          rw [e106]
          refine z_callv (z_run (As := [.int (nI q), .long 0]) (rest := []) hx hb hml hown hts hU hN (c_close l z _ g100 hi (by rw [e100]; exact hbo) hn 0) (w_B_close_cw hts k_B_19 rfl rfl ⟨Nat.le_of_ble_eq_true rfl, Nat.le_of_ble_eq_true rfl⟩) (z_recvB hU hi) rfl hl.1 rfl (lv_room (Nat.le_of_ble_eq_true rfl)) d_B_setDifference_110 ⟨Nat.zero_le _, Nat.zero_le _⟩) hU (fun g3 H locs hp hU => ?_)
          obtain ⟨b9, rfl, hb1, hb2, hb3⟩ := hp
          rw [← eg100, sG_sG, sW_eq, sG_sG] at hU
          have hv : vl f q = vl F q - vl G r := by
            rw [vl_wd hrn] at hI
            have hl1 := vl_lt f q
            have hle2 : vl G r ≤ vl F q := by rw [← hbv, ← hbr]; exact hle
            rcases hc with hc | hc <;> rw [hc] at hI <;> omega
          exact z_vret hx hb hr hlocks hsz hU ⟨b9, rfl, hb1, by rw [hb2, e100]; exact e3, by
            rw [hb3, e100, uN_0, Nat.zero_mod, Nat.zero_mul, Nat.add_zero, ← eAB, hbv, hbr]
            show vl f q % MM = _
            rw [hv, Nat.mod_eq_of_lt]
            have := vl_ltM F hn
            omega⟩ d_B_setDifference_113
        · exact absurd (by rw [e38]; exact Int32.le_refl _) c41
      | succ d ih =>
        intro q f cr H locs ls hq hI hc hU hl
        refine lv_iload hx hb d_B_setDifference_34 (lv_at hl 7 rfl) ?_
        refine lv_aload hx hb d_B_setDifference_36 (lv_at hl 4 rfl) ?_
        refine va_get (D := z.1) (ci := 2) (v := .int (((sW g i f).2.2.2 a).1)) (C := R_B) (T := F_B) (N := 3) hx hb hts in_B hown hU.2.1 hU.1 (2 + 2 * a) (uw_o z (sW g i f) ha) rfl 1 (by decide) (hts _ k_B_23) (fun _ h9 => h9) rfl d_B_setDifference_38 ?_
        refine lv_topi (fun x38 ex38 => ?_)
        have e38 : x38 = nI n := by rw [ex38, sW_n _ _ hia, hn1]
        refine lv_icmp_ge (tgt := 98) hx hb d_B_setDifference_41 (by decide) (fun c41 => ?_) (fun c41 => ?_)
        · exact absurd (by rw [e38] at c41; exact c41) (nI_ge (by omega) (by omega))
        · have hin53 : vp_in (nI q) 512 := vp_in_nI (by omega) (by decide)
          have hin84 := hin53
          refine lv_lload hx hb d_B_setDifference_44 (lv_at hl 6 rfl) ?_
          refine lv_aload hx hb d_B_setDifference_46 (lv_at hl 4 rfl) ?_
          refine va_get (D := z.1) (ci := 2) (v := .ref (rA z a)) (C := R_B) (T := F_B) (N := 3) hx hb hts in_B hown hU.2.1 hU.1 (2 + 2 * a) (uw_o z (sW g i f) ha) rfl 0 (by decide) (hts _ k_B_9) (fun _ h9 => h9) rfl d_B_setDifference_48 ?_
          refine lv_iload hx hb d_B_setDifference_51 (lv_at hl 7 rfl) ?_
          refine va_iald hx hb hU.2.1 hU.1 (3 + 2 * a) a (uw_w z (sW g i f) ha) (zty_a z ha) hin53 d_B_setDifference_53 ?_
          refine lv_topi (fun x53 ex53 => ?_)
          refine lv_i2l hx hb d_B_setDifference_54 rfl ?_
          refine lv_topl (fun x54 ex54 => ?_)
          refine lv_ldc2 (v := 4294967295) hx hb hown (hts _ k_B_39) d_B_setDifference_55 ?_
          refine lv_land hx hb d_B_setDifference_58 ?_
          refine lv_topl (fun x58 ex58 => ?_)
          refine lv_aload hx hb d_B_setDifference_59 (lv_at hl 5 rfl) ?_
          refine lv_iload hx hb d_B_setDifference_61 (lv_at hl 7 rfl) ?_
          refine z_calli (z_run (As := [.int (nI q)]) (rest := [.long x58, .long cr]) hx hb hml hown hts hU hN (c_wordAt l z _ (sW g i f) hb0 hr0 (by rw [sW_n _ _ hib]; exact hr1) (K := q) (by omega)) (w_B_wordAt_cw hts k_B_58 rfl rfl ⟨Nat.le_of_ble_eq_true rfl, Nat.le_of_ble_eq_true rfl⟩) (z_recvB hU hb0) rfl hl.1 rfl (lv_room (Nat.le_of_ble_eq_true rfl)) d_B_setDifference_63 ⟨Nat.zero_le _, Nat.zero_le _⟩) hU (fun r63 g63 H locs hp63 hU => ?_)
          obtain ⟨rfl, e63⟩ := hp63
          refine lv_i2l hx hb d_B_setDifference_66 rfl ?_
          refine lv_topl (fun x66 ex66 => ?_)
          refine lv_ldc2 (v := 4294967295) hx hb hown (hts _ k_B_39) d_B_setDifference_67 ?_
          refine lv_land hx hb d_B_setDifference_70 ?_
          refine lv_topl (fun x70 ex70 => ?_)
          refine lv_lsub hx hb d_B_setDifference_71 ?_
          refine lv_topl (fun x71 ex71 => ?_)
          refine lv_ladd hx hb d_B_setDifference_72 ?_
          refine lv_topl (fun x72 ex72 => ?_)
          refine lv_lstore (lv' := [(6, .long x72), (0, .ref (oA z i)), (1, .ref (oA z j)), (2, .ref (oA z k)), (3, .int x3), (4, .ref (oA z a)), (5, .ref (oA z b)), (8, .int (nI q))]) hx hb d_B_setDifference_73 hl (by decide) rfl (fun ls hl => ?_)
          refine lv_aload_n hx hb d_B_setDifference_75 rfl (lv_at hl 1 rfl) ?_
          refine va_get (D := z.1) (ci := 2) (v := .ref (rA z i)) (C := R_B) (T := F_B) (N := 3) hx hb hts in_B hown hU.2.1 hU.1 (2 + 2 * i) (uw_o z (sW g i f) hi) rfl 0 (by decide) (hts _ k_B_9) (fun _ h9 => h9) rfl d_B_setDifference_76 ?_
          refine lv_iload hx hb d_B_setDifference_79 (lv_at hl 7 rfl) ?_
          refine lv_lload hx hb d_B_setDifference_81 (lv_at hl 0 rfl) ?_
          refine lv_l2i hx hb d_B_setDifference_83 rfl ?_
          refine lv_topi (fun x83 ex83 => ?_)
          refine z_iast hx hb hU hi hin84 d_B_setDifference_84 (fun H locs hU => ?_)
          generalize eg84 : sW (sW g i f) i (upd ((sW g i f).2.2.2 i).2.2 (nI q).toNatClampNeg x83) = g84 at hU
          refine lv_lload hx hb d_B_setDifference_85 (lv_at hl 0 rfl) ?_
          refine lv_bipush (v := 32) hx hb d_B_setDifference_87 (by decide) ?_
          refine lv_lshr hx hb d_B_setDifference_89 rfl ?_
          refine lv_topl (fun x89 ex89 => ?_)
          refine lv_lstore (lv' := [(6, .long x89), (0, .ref (oA z i)), (1, .ref (oA z j)), (2, .ref (oA z k)), (3, .int x3), (4, .ref (oA z a)), (5, .ref (oA z b)), (8, .int (nI q))]) hx hb d_B_setDifference_90 hl (by decide) rfl (fun ls hl => ?_)
          obtain ⟨x92, ex92⟩ : ∃ y : Int32, y = (nI q) + Int32.ofInt 1 := ⟨_, rfl⟩
          refine lv_iinc (v := x92) (lv' := [(8, .int x92), (6, .long x89), (0, .ref (oA z i)), (1, .ref (oA z j)), (2, .ref (oA z k)), (3, .int x3), (4, .ref (oA z a)), (5, .ref (oA z b))]) hx hb d_B_setDifference_92 hl (k := 7) rfl (by rw [ex92]) (by decide) rfl (fun ls hl => ?_)
          refine lv_goto (tgt := 34) hx hb d_B_setDifference_95 (by decide) ?_
          have a1 : r63 = wd G r q := by rw [e63, sW_n _ _ hib, eG]
          have a2 : x53 = F q := by rw [ex53, sW_n _ _ hia, nI_clamp (by omega), eF]
          have u58 : uN x58 = wn (F q) := by rw [ex58, ex54, a2]; exact uN_w _
          have u70 : uN x70 = wn (wd G r q) := by rw [ex70, ex66, a1]; exact uN_w _
          have w1 := wn_lt (F q)
          have w2 := wn_lt (wd G r q)
          have t58 := uN_int x58
          have t70 := uN_int x70
          rw [if_pos (by omega)] at t58 t70
          have t71 : x71.toInt = (wn (F q) : Int) - wn (wd G r q) := by rw [ex71, Jvm.Kit.i64_sub] <;> omega
          have t72 : x72.toInt = cr.toInt + ((wn (F q) : Int) - wn (wd G r q)) := by rw [ex72, Jvm.Kit.i64_add] <;> omega
          have t89 : x89.toInt = x72.toInt / 4294967296 := by rw [ex89]; exact Jvm.Kit.i64_shr x72 _ (k := 32) (by decide)
          have t83 : (wn x83 : Int) = x72.toInt % 4294967296 := by rw [ex83]; exact wn_l2iZ x72
          rw [← eg84, sW_sW, sW_s, nI_clamp (by omega)] at hU
          rw [ex92, show Int32.ofInt 1 = 1 from rfl, nI_1] at hl
          exact ih (q + 1) _ x89 _ _ ls (by omega) (by
            rw [vl_upds, t89, vl_s, vl_s, Nat.pow_succ]
            exact vl_stepD x72.toInt hI t72 t83) (by rw [t89, t72]; omega) hU (lv_sub hl [2, 3, 4, 5, 6, 7, 1, 0] rfl)
    refine lv_lconst (v := 0) hx hb d_B_setDifference_28 (by decide) ?_
    refine lv_lstore (lv' := [(6, .long 0), (0, .ref (oA z i)), (1, .ref (oA z j)), (2, .ref (oA z k)), (3, .int x3), (4, .ref (oA z a)), (5, .ref (oA z b))]) hx hb d_B_setDifference_29 hl (by decide) rfl (fun ls hl => ?_)
    refine lv_iconst (v := 0) hx hb d_B_setDifference_31 (by decide) ?_
    refine lv_istore (lv' := [(8, .int 0), (6, .long 0), (0, .ref (oA z i)), (1, .ref (oA z j)), (2, .ref (oA z k)), (3, .int x3), (4, .ref (oA z a)), (5, .ref (oA z b))]) hx hb d_B_setDifference_32 hl (by decide) rfl (fun ls hl => ?_)
    exact K n 0 (g.2.2.2 i).2.2 0 _ _ ls (Nat.zero_add n) rfl (Or.inl rfl) (by rw [sW_self]; exact hU) (lv_sub hl [2, 3, 4, 5, 6, 7, 1, 0] rfl)
  refine lv_aload_n hx hb d_B_setDifference_0 rfl (lv_at hl 1 rfl) ?_
  refine lv_aload_n hx hb d_B_setDifference_1 rfl (lv_at hl 2 rfl) ?_
  refine z_calli (z_run (As := [.ref (oA z k)]) (rest := []) hx hb hml hown hts hU hN (c_isLess l z _ g hj hk hok hok2) (w_B_isLess_cw hts k_B_61 rfl rfl ⟨Nat.le_of_ble_eq_true rfl, Nat.le_of_ble_eq_true rfl⟩) (z_recvB hU hj) rfl hl.1 rfl (lv_room (Nat.le_of_ble_eq_true rfl)) d_B_setDifference_2 ⟨Nat.zero_le _, Nat.zero_le _⟩) hU (fun r2 g2 H locs hp2 hU => ?_)
  obtain ⟨e9, e2⟩ := hp2
  rw [e9] at hU
  refine lv_istore_n (lv' := [(3, .int r2), (0, .ref (oA z i)), (1, .ref (oA z j)), (2, .ref (oA z k))]) hx hb d_B_setDifference_5 rfl hl (by decide) rfl (fun ls hl => ?_)
  refine lv_iload_n hx hb d_B_setDifference_6 rfl (lv_at hl 0 rfl) ?_
  refine lv_if_eq (tgt := 14) hx hb d_B_setDifference_7 (by decide) (fun c7 => ?_) (fun c7 => ?_)
  · have h7 : ¬ bv (g.2.2.2 j) < bv (g.2.2.2 k) := fun q => by rw [e2, if_pos q] at c7; exact absurd c7 (by decide)
    refine lv_aload_n hx hb d_B_setDifference_14 rfl (lv_at hl 2 rfl) ?_
    refine lv_astore (lv' := [(4, .ref (oA z j)), (3, .int r2), (0, .ref (oA z i)), (1, .ref (oA z j)), (2, .ref (oA z k))]) hx hb d_B_setDifference_15 hl (by decide) rfl (fun ls hl => ?_)
    refine lv_iload_n hx hb d_B_setDifference_17 rfl (lv_at hl 1 rfl) ?_
    refine lv_if_eq (tgt := 25) hx hb d_B_setDifference_18 (by decide) (fun c18 => ?_) (fun c18 => ?_)
    · refine lv_aload_n hx hb d_B_setDifference_25 rfl (lv_at hl 4 rfl) ?_
      refine lv_astore (lv' := [(5, .ref (oA z k)), (4, .ref (oA z j)), (3, .int r2), (0, .ref (oA z i)), (1, .ref (oA z j)), (2, .ref (oA z k))]) hx hb d_B_setDifference_26 hl (by decide) rfl (fun ls hl => ?_)
      exact E j k _ _ _ ls hj hk hij hik hok hok2 (Nat.le_of_not_lt h7) (by rw [e2, if_neg h7]; exact Or.inl rfl) e2 (by rw [if_neg h7]) hU (lv_sub hl [3, 4, 5, 2, 1, 0] rfl)
    · exact absurd c7 c18
  · have h7 : bv (g.2.2.2 j) < bv (g.2.2.2 k) := Classical.byContradiction fun q => c7 (by rw [e2, if_neg q])
    refine lv_aload_n hx hb d_B_setDifference_10 rfl (lv_at hl 3 rfl) ?_
    refine lv_goto (tgt := 15) hx hb d_B_setDifference_11 (by decide) ?_
    refine lv_astore (lv' := [(4, .ref (oA z k)), (3, .int r2), (0, .ref (oA z i)), (1, .ref (oA z j)), (2, .ref (oA z k))]) hx hb d_B_setDifference_15 hl (by decide) rfl (fun ls hl => ?_)
    refine lv_iload_n hx hb d_B_setDifference_17 rfl (lv_at hl 1 rfl) ?_
    refine lv_if_eq (tgt := 25) hx hb d_B_setDifference_18 (by decide) (fun c18 => ?_) (fun c18 => ?_)
    · exact absurd c18 c7
    · refine lv_aload_n hx hb d_B_setDifference_21 rfl (lv_at hl 3 rfl) ?_
      refine lv_goto (tgt := 26) hx hb d_B_setDifference_22 (by decide) ?_
      refine lv_astore (lv' := [(5, .ref (oA z j)), (4, .ref (oA z k)), (3, .int r2), (0, .ref (oA z i)), (1, .ref (oA z j)), (2, .ref (oA z k))]) hx hb d_B_setDifference_26 hl (by decide) rfl (fun ls hl => ?_)
      exact E k j _ _ _ ls hk hj hik hij hok2 hok (Nat.le_of_lt h7) (by rw [e2, if_pos h7]; exact Or.inr rfl) e2 (by rw [if_pos h7]) hU (lv_sub hl [3, 4, 5, 2, 1, 0] rfl)
set_option maxHeartbeats 4000000 in
set_option maxRecDepth 100000 in
theorem c_halve (l : Launch) (z : ZZ) (sz : Nat) (g : St) {i : Nat} (hi : i < 10) (hok : bOk (g.2.2.2 i)) : Met l y_B_halve (zw y_B_halve b_B_halve 2 none) { frames := 1, cells := 0, slots := 0, locals := 23 } (va_Pc [.ref (oA z i)] (zI z g sz)) (va_Qv (fun g2 => ∃ b, g2 = sG g i b ∧ bOk b ∧ b.2.1 = (g.2.2.2 i).2.1 ∧ bv b = bv (g.2.2.2 i) / 2) (zO z sz) (zA z sz)) 0 0 (zA z sz) := by
  refine z_ofW (by decide) (Nat.le_of_ble_eq_true rfl) (fun p e s m below meth c hx hb hr hml hown hts hlocks hname hsz hN ls hU hl => ?_)
  have hl : lv_has ls 2 [(0, .ref (oA z i))] := hl
  obtain ⟨n, hn, hn1, hbel, htop⟩ := hok
  have hbv : bv (g.2.2.2 i) = vl (g.2.2.2 i).2.2 n := bv_of hn hn1
  generalize eF : (g.2.2.2 i).2.2 = F at hbv htop
  have K : ∀ (d q : Nat) (f : Nat → Int32) (H : Heap) (locs : List Loc) (ls : Array Slot), q + d = n → 2 * vl f q + wn (wd F n 0) % 2 = vl F q + wn (wd F n q) % 2 * 4294967296 ^ q → (∀ t, q ≤ t → f t = F t) → Ws z (sW g i f) s.heap H locs s → lv_has ls 2 [(0, .ref (oA z i)), (1, .int (nI q))] → W p l e ({ frames := 1, cells := 0, slots := 0, locals := 23 } : Room) s m ([.ref (oA z i)] : List Value).toArray below meth c H locs 0 0 (MQ below (va_Qv (fun g2 => ∃ b, g2 = sG g i b ∧ bOk b ∧ b.2.1 = (g.2.2.2 i).2.1 ∧ bv b = bv (g.2.2.2 i) / 2) (zO z sz) (zA z sz)) ([.ref (oA z i)] : List Value).toArray s 0 0 (zA z sz)) (F0 m 2 ls []) := by
    intro d
    induction d with
    | zero =>
      intro q f H locs ls hq hI hf hU hl
      have hq : q = n := by omega
      subst hq
      refine lv_iload_n hx hb d_B_halve_2 rfl (lv_at hl 1 rfl) ?_
      refine lv_aload_n hx hb d_B_halve_3 rfl (lv_at hl 0 rfl) ?_
      refine va_get (D := z.1) (ci := 2) (v := .int (((sW g i f).2.2.2 i).1)) (C := R_B) (T := F_B) (N := 3) hx hb hts in_B hown hU.2.1 hU.1 (2 + 2 * i) (uw_o z (sW g i f) hi) rfl 1 (by decide) (hts _ k_B_23) (fun _ h9 => h9) rfl d_B_halve_4 ?_
      refine lv_topi (fun x4 ex4 => ?_)
      have e4 : x4 = nI q := by rw [ex4, sW_s]; exact hn1
      refine lv_icmp_ge (tgt := 41) hx hb d_B_halve_7 (by decide) (fun c7 => ?_) (fun c7 => ?_)
      · refine lv_aload_n hx hb d_B_halve_41 rfl (lv_at hl 0 rfl) ?_
        refine lv_aload_n hx hb d_B_halve_42 rfl (lv_at hl 0 rfl) ?_
        refine va_get (D := z.1) (ci := 2) (v := .int (((sW g i f).2.2.2 i).1)) (C := R_B) (T := F_B) (N := 3) hx hb hts in_B hown hU.2.1 hU.1 (2 + 2 * i) (uw_o z (sW g i f) hi) rfl 1 (by decide) (hts _ k_B_23) (fun _ h9 => h9) rfl d_B_halve_43 ?_
        refine lv_topi (fun x43 ex43 => ?_)
        refine lv_lconst (v := 0) hx hb d_B_halve_46 (by decide) ?_
        have e43 : x43 = nI q := by rw [ex43, sW_s]; exact hn1
        rw [e43]
        refine z_callv (z_run (As := [.int (nI q), .long 0]) (rest := []) hx hb hml hown hts hU hN (c_close l z _ (sW g i f) hi (by rw [sW_s]; exact hbel) hn 0) (w_B_close_cw hts k_B_19 rfl rfl ⟨Nat.le_of_ble_eq_true rfl, Nat.le_of_ble_eq_true rfl⟩) (z_recvB hU hi) rfl hl.1 rfl (lv_room (Nat.le_of_ble_eq_true rfl)) d_B_halve_47 ⟨Nat.zero_le _, Nat.zero_le _⟩) hU (fun g3 H locs hp hU => ?_)
        obtain ⟨b9, rfl, hb1, hb2, hb3⟩ := hp
        rw [sW_eq, sG_sG] at hU
        exact z_vret hx hb hr hlocks hsz hU ⟨b9, rfl, hb1, by rw [hb2, sW_s], by
          rw [hb3, sW_s, uN_0, Nat.zero_mod, Nat.zero_mul, Nat.add_zero, hbv]
          show vl f q % MM = _
          rw [Nat.mod_eq_of_lt (vl_ltM f hn)]
          rw [wd_ge (Nat.le_refl q), wn_0] at hI
          omega⟩ d_B_halve_50
      · exact absurd (by rw [e4]; exact Int32.le_refl _) c7
    | succ d ih =>
      intro q f H locs ls hq hI hf hU hl
      refine lv_iload_n hx hb d_B_halve_2 rfl (lv_at hl 1 rfl) ?_
      refine lv_aload_n hx hb d_B_halve_3 rfl (lv_at hl 0 rfl) ?_
      refine va_get (D := z.1) (ci := 2) (v := .int (((sW g i f).2.2.2 i).1)) (C := R_B) (T := F_B) (N := 3) hx hb hts in_B hown hU.2.1 hU.1 (2 + 2 * i) (uw_o z (sW g i f) hi) rfl 1 (by decide) (hts _ k_B_23) (fun _ h9 => h9) rfl d_B_halve_4 ?_
      refine lv_topi (fun x4 ex4 => ?_)
      have e4 : x4 = nI n := by rw [ex4, sW_s]; exact hn1
      refine lv_icmp_ge (tgt := 41) hx hb d_B_halve_7 (by decide) (fun c7 => ?_) (fun c7 => ?_)
      · exact absurd (by rw [e4] at c7; exact c7) (nI_ge (by omega) (by omega))
      · have hin20 : vp_in (nI q) 512 := vp_in_nI (by omega) (by decide)
        have hin34 := hin20
        refine lv_aload_n hx hb d_B_halve_10 rfl (lv_at hl 0 rfl) ?_
        refine va_get (D := z.1) (ci := 2) (v := .ref (rA z i)) (C := R_B) (T := F_B) (N := 3) hx hb hts in_B hown hU.2.1 hU.1 (2 + 2 * i) (uw_o z (sW g i f) hi) rfl 0 (by decide) (hts _ k_B_9) (fun _ h9 => h9) rfl d_B_halve_11 ?_
        refine lv_iload_n hx hb d_B_halve_14 rfl (lv_at hl 1 rfl) ?_
        refine lv_aload_n hx hb d_B_halve_15 rfl (lv_at hl 0 rfl) ?_
        refine va_get (D := z.1) (ci := 2) (v := .ref (rA z i)) (C := R_B) (T := F_B) (N := 3) hx hb hts in_B hown hU.2.1 hU.1 (2 + 2 * i) (uw_o z (sW g i f) hi) rfl 0 (by decide) (hts _ k_B_9) (fun _ h9 => h9) rfl d_B_halve_16 ?_
        refine lv_iload_n hx hb d_B_halve_19 rfl (lv_at hl 1 rfl) ?_
        refine va_iald hx hb hU.2.1 hU.1 (3 + 2 * i) i (uw_w z (sW g i f) hi) (zty_a z hi) hin20 d_B_halve_20 ?_
        refine lv_topi (fun x20 ex20 => ?_)
        refine lv_iconst (v := 1) hx hb d_B_halve_21 (by decide) ?_
        refine lv_iushr hx hb d_B_halve_22 rfl ?_
        refine lv_topi (fun x22 ex22 => ?_)
        refine lv_aload_n hx hb d_B_halve_23 rfl (lv_at hl 0 rfl) ?_
        refine lv_iload_n hx hb d_B_halve_24 rfl (lv_at hl 1 rfl) ?_
        refine lv_iconst (v := 1) hx hb d_B_halve_25 (by decide) ?_
        refine lv_iadd hx hb d_B_halve_26 ?_
        refine lv_topi (fun x26 ex26 => ?_)
        have e26 : x26 = nI (q + 1) := by rw [ex26]; exact nI_1 q
        rw [e26]
        refine z_calli (z_run (As := [.int (nI (q + 1))]) (rest := [.int x22, .int (nI q), .ref (rA z i)]) hx hb hml hown hts hU hN (c_wordAt l z _ (sW g i f) hi hn (by rw [sW_s]; exact hn1) (K := q + 1) (by omega)) (w_B_wordAt_cw hts k_B_58 rfl rfl ⟨Nat.le_of_ble_eq_true rfl, Nat.le_of_ble_eq_true rfl⟩) (z_recvB hU hi) rfl hl.1 rfl (lv_room (Nat.le_of_ble_eq_true rfl)) d_B_halve_27 ⟨Nat.zero_le _, Nat.zero_le _⟩) hU (fun r27 g27 H locs hp27 hU => ?_)
        obtain ⟨rfl, e27⟩ := hp27
        refine lv_bipush (v := 31) hx hb d_B_halve_30 (by decide) ?_
        refine lv_ishl hx hb d_B_halve_32 ?_
        refine lv_topi (fun x32 ex32 => ?_)
        refine lv_ior hx hb d_B_halve_33 ?_
        refine lv_topi (fun x33 ex33 => ?_)
        refine z_iast hx hb hU hi hin34 d_B_halve_34 (fun H locs hU => ?_)
        generalize eg34 : sW (sW g i f) i (upd ((sW g i f).2.2.2 i).2.2 (nI q).toNatClampNeg x33) = g34 at hU
        obtain ⟨x35, ex35⟩ : ∃ y : Int32, y = (nI q) + Int32.ofInt 1 := ⟨_, rfl⟩
        refine lv_iinc (v := x35) (lv' := [(1, .int x35), (0, .ref (oA z i))]) hx hb d_B_halve_35 hl (k := 1) rfl (by rw [ex35]) (by decide) rfl (fun ls hl => ?_)
        refine lv_goto (tgt := 2) hx hb d_B_halve_38 (by decide) ?_
        have a1 : r27 = wd F n (q + 1) := by
          rw [e27, sW_s]
          show wd f n (q + 1) = wd F n (q + 1)
          unfold wd
          rw [hf (q + 1) (by omega)]
        have a2 : x20 = F q := by
          rw [ex20, sW_s, nI_clamp (by omega)]
          exact hf q (Nat.le_refl q)
        have a3 : wn x33 = wn (F q) / 2 + wn (wd F n (q + 1)) % 2 * 2147483648 := by rw [ex33, ex32, ex22, a2, a1]; exact wn_halve _ _
        rw [← eg34, sW_sW, sW_s, nI_clamp (by omega)] at hU
        rw [ex35, show Int32.ofInt 1 = 1 from rfl, nI_1] at hl
        exact ih (q + 1) _ _ _ ls (by omega) (by
          rw [vl_upds, a3, vl_s, Nat.pow_succ]
          rw [wd_lt (show q < n by omega)] at hI
          exact vl_stepH hI) (fun t ht => by rw [pk_un (by omega)]; exact hf t (by omega)) hU (lv_sub hl [1, 0] rfl)
  refine lv_iconst (v := 0) hx hb d_B_halve_0 (by decide) ?_
  refine lv_istore_n (lv' := [(1, .int 0), (0, .ref (oA z i))]) hx hb d_B_halve_1 rfl hl (by decide) rfl (fun ls hl => ?_)
  exact K n 0 F _ _ ls (Nat.zero_add n) (by show 2 * 0 + _ = 0 + _ * 1; omega) (fun _ _ => rfl) (by rw [← eF, sW_self]; exact hU) (lv_sub hl [1, 0] rfl)
set_option maxHeartbeats 4000000 in
set_option maxRecDepth 100000 in
theorem c_addSmall (l : Launch) (z : ZZ) (sz : Nat) (g : St) {i : Nat} (hi : i < 10) (hok : bOk (g.2.2.2 i)) {v : Nat} (hv : v < 2 ^ 31) : Met l y_B_addSmall (zw y_B_addSmall b_B_addSmall 5 none) { frames := 1, cells := 0, slots := 0, locals := 23 } (va_Pc [.ref (oA z i), .int (nI v)] (zI z g sz)) (va_Qv (fun g2 => ∃ b, g2 = sG g i b ∧ bOk b ∧ b.2.1 = (g.2.2.2 i).2.1 ∧ bv b = (bv (g.2.2.2 i) + v) % MM) (zO z sz) (zA z sz)) 0 0 (zA z sz) := by
  refine z_ofW (by decide) (Nat.le_of_ble_eq_true rfl) (fun p e s m below meth c hx hb hr hml hown hts hlocks hname hsz hN ls hU hl => ?_)
  have hl : lv_has ls 5 [(0, .ref (oA z i)), (1, .int (nI v))] := hl
  obtain ⟨n, hn, hn1, hbel, htop⟩ := hok
  have hbv : bv (g.2.2.2 i) = vl (g.2.2.2 i).2.2 n := bv_of hn hn1
  generalize eF : (g.2.2.2 i).2.2 = F at hbv htop
  have E : ∀ (q : Nat) (f : Nat → Int32) (cr : Int64) (H : Heap) (locs : List Loc) (ls : Array Slot), q ≤ n → (q = n ∨ cr = 0) → vl f q + uN cr * 4294967296 ^ q = vl F q + v → uN cr < 4294967296 → (∀ t, q ≤ t → f t = F t) → Ws z (sW g i f) s.heap H locs s → lv_has ls 5 [(0, .ref (oA z i)), (1, .int (nI v)), (2, .long cr), (4, .int (nI q))] → W p l e ({ frames := 1, cells := 0, slots := 0, locals := 23 } : Room) s m ([.ref (oA z i), .int (nI v)] : List Value).toArray below meth c H locs 0 0 (MQ below (va_Qv (fun g2 => ∃ b, g2 = sG g i b ∧ bOk b ∧ b.2.1 = (g.2.2.2 i).2.1 ∧ bv b = (bv (g.2.2.2 i) + v) % MM) (zO z sz) (zA z sz)) ([.ref (oA z i), .int (nI v)] : List Value).toArray s 0 0 (zA z sz)) (F0 m 56 ls []) := by
    intro q f cr H locs ls hq hqn hI hc hf hU hl
    refine lv_aload_n hx hb d_B_addSmall_56 rfl (lv_at hl 0 rfl) ?_
    refine lv_aload_n hx hb d_B_addSmall_57 rfl (lv_at hl 0 rfl) ?_
    refine va_get (D := z.1) (ci := 2) (v := .int (((sW g i f).2.2.2 i).1)) (C := R_B) (T := F_B) (N := 3) hx hb hts in_B hown hU.2.1 hU.1 (2 + 2 * i) (uw_o z (sW g i f) hi) rfl 1 (by decide) (hts _ k_B_23) (fun _ h9 => h9) rfl d_B_addSmall_58 ?_
    refine lv_topi (fun x58 ex58 => ?_)
    refine lv_lload_n hx hb d_B_addSmall_61 rfl (lv_at hl 2 rfl) ?_
    have e58 : x58 = nI n := by rw [ex58, sW_s]; exact hn1
    rw [e58]
    refine z_callv (z_run (As := [.int (nI n), .long cr]) (rest := []) hx hb hml hown hts hU hN (c_close l z _ (sW g i f) hi (by rw [sW_s]; exact hbel) hn cr) (w_B_close_cw hts k_B_19 rfl rfl ⟨Nat.le_of_ble_eq_true rfl, Nat.le_of_ble_eq_true rfl⟩) (z_recvB hU hi) rfl hl.1 rfl (lv_room (Nat.le_of_ble_eq_true rfl)) d_B_addSmall_62 ⟨Nat.zero_le _, Nat.zero_le _⟩) hU (fun g3 H locs hp hU => ?_)
    obtain ⟨b9, rfl, hb1, hb2, hb3⟩ := hp
    rw [sW_eq, sG_sG] at hU
    have hvn : vl f n + vl F q = vl F n + vl f q := vl_tail hq (fun t h1 _ => hf t h1)
    exact z_vret hx hb hr hlocks hsz hU ⟨b9, rfl, hb1, by rw [hb2, sW_s], by
      rw [hb3, sW_s, Nat.mod_eq_of_lt hc, hbv]
      show (vl f n + uN cr * 4294967296 ^ n) % MM = _
      congr 1
      rcases hqn with h | h
      · subst h; exact hI
      · rw [h, uN_0, Nat.zero_mul] at hI ⊢
        omega⟩ d_B_addSmall_65
  have K : ∀ (d q : Nat) (f : Nat → Int32) (cr : Int64) (H : Heap) (locs : List Loc) (ls : Array Slot), q + d = n → vl f q + uN cr * 4294967296 ^ q = vl F q + v → uN cr < 4294967296 → (∀ t, q ≤ t → f t = F t) → Ws z (sW g i f) s.heap H locs s → lv_has ls 5 [(0, .ref (oA z i)), (1, .int (nI v)), (2, .long cr), (4, .int (nI q))] → W p l e ({ frames := 1, cells := 0, slots := 0, locals := 23 } : Room) s m ([.ref (oA z i), .int (nI v)] : List Value).toArray below meth c H locs 0 0 (MQ below (va_Qv (fun g2 => ∃ b, g2 = sG g i b ∧ bOk b ∧ b.2.1 = (g.2.2.2 i).2.1 ∧ bv b = (bv (g.2.2.2 i) + v) % MM) (zO z sz) (zA z sz)) ([.ref (oA z i), .int (nI v)] : List Value).toArray s 0 0 (zA z sz)) (F0 m 6 ls []) := by
    intro d
    induction d with
    | zero =>
      intro q f cr H locs ls hq hI hc hf hU hl
      refine lv_iload hx hb d_B_addSmall_6 (lv_at hl 3 rfl) ?_
      refine lv_aload_n hx hb d_B_addSmall_8 rfl (lv_at hl 0 rfl) ?_
      refine va_get (D := z.1) (ci := 2) (v := .int (((sW g i f).2.2.2 i).1)) (C := R_B) (T := F_B) (N := 3) hx hb hts in_B hown hU.2.1 hU.1 (2 + 2 * i) (uw_o z (sW g i f) hi) rfl 1 (by decide) (hts _ k_B_23) (fun _ h9 => h9) rfl d_B_addSmall_9 ?_
      refine lv_topi (fun x9 ex9 => ?_)
      have e9 : x9 = nI n := by rw [ex9, sW_s]; exact hn1
      refine lv_icmp_ge (tgt := 56) hx hb d_B_addSmall_12 (by decide) (fun c12 => ?_) (fun c12 => ?_)
      · exact E q f cr _ _ ls (by omega) (Or.inl (by omega)) hI hc hf hU hl
      · exact absurd (by rw [e9, show q = n by omega]; exact Int32.le_refl _) c12
    | succ d ih =>
      intro q f cr H locs ls hq hI hc hf hU hl
      refine lv_iload hx hb d_B_addSmall_6 (lv_at hl 3 rfl) ?_
      refine lv_aload_n hx hb d_B_addSmall_8 rfl (lv_at hl 0 rfl) ?_
      refine va_get (D := z.1) (ci := 2) (v := .int (((sW g i f).2.2.2 i).1)) (C := R_B) (T := F_B) (N := 3) hx hb hts in_B hown hU.2.1 hU.1 (2 + 2 * i) (uw_o z (sW g i f) hi) rfl 1 (by decide) (hts _ k_B_23) (fun _ h9 => h9) rfl d_B_addSmall_9 ?_
      refine lv_topi (fun x9 ex9 => ?_)
      have e9 : x9 = nI n := by rw [ex9, sW_s]; exact hn1
      refine lv_icmp_ge (tgt := 56) hx hb d_B_addSmall_12 (by decide) (fun c12 => ?_) (fun c12 => ?_)
      · exact absurd (by rw [e9] at c12; exact c12) (nI_ge (by omega) (by omega))
      · refine lv_lload_n hx hb d_B_addSmall_15 rfl (lv_at hl 2 rfl) ?_
        refine lv_lconst (v := 0) hx hb d_B_addSmall_16 (by decide) ?_
        refine W.lcmp hx hb d_B_addSmall_17 ?_
        refine lv_if_eq (tgt := 56) hx hb d_B_addSmall_18 (by decide) (fun c18 => ?_) (fun c18 => ?_)
        · exact E q f cr _ _ ls (by omega) (Or.inr ((lg_cmp_eq _ _).mp c18)) hI hc hf hU hl
        · have hin28 : vp_in (nI q) 512 := vp_in_nI (by omega) (by decide)
          have hin44 := hin28
          refine lv_lload_n hx hb d_B_addSmall_21 rfl (lv_at hl 2 rfl) ?_
          refine lv_aload_n hx hb d_B_addSmall_22 rfl (lv_at hl 0 rfl) ?_
          refine va_get (D := z.1) (ci := 2) (v := .ref (rA z i)) (C := R_B) (T := F_B) (N := 3) hx hb hts in_B hown hU.2.1 hU.1 (2 + 2 * i) (uw_o z (sW g i f) hi) rfl 0 (by decide) (hts _ k_B_9) (fun _ h9 => h9) rfl d_B_addSmall_23 ?_
          refine lv_iload hx hb d_B_addSmall_26 (lv_at hl 3 rfl) ?_
          refine va_iald hx hb hU.2.1 hU.1 (3 + 2 * i) i (uw_w z (sW g i f) hi) (zty_a z hi) hin28 d_B_addSmall_28 ?_
          refine lv_topi (fun x28 ex28 => ?_)
          refine lv_i2l hx hb d_B_addSmall_29 rfl ?_
          refine lv_topl (fun x29 ex29 => ?_)
          refine lv_ldc2 (v := 4294967295) hx hb hown (hts _ k_B_39) d_B_addSmall_30 ?_
          refine lv_land hx hb d_B_addSmall_33 ?_
          refine lv_topl (fun x33 ex33 => ?_)
          refine lv_ladd hx hb d_B_addSmall_34 ?_
          refine lv_topl (fun x34 ex34 => ?_)
          refine lv_lstore_n (lv' := [(2, .long x34), (0, .ref (oA z i)), (1, .int (nI v)), (4, .int (nI q))]) hx hb d_B_addSmall_35 rfl hl (by decide) rfl (fun ls hl => ?_)
          refine lv_aload_n hx hb d_B_addSmall_36 rfl (lv_at hl 1 rfl) ?_
          refine va_get (D := z.1) (ci := 2) (v := .ref (rA z i)) (C := R_B) (T := F_B) (N := 3) hx hb hts in_B hown hU.2.1 hU.1 (2 + 2 * i) (uw_o z (sW g i f) hi) rfl 0 (by decide) (hts _ k_B_9) (fun _ h9 => h9) rfl d_B_addSmall_37 ?_
          refine lv_iload hx hb d_B_addSmall_40 (lv_at hl 3 rfl) ?_
          refine lv_lload_n hx hb d_B_addSmall_42 rfl (lv_at hl 0 rfl) ?_
          refine lv_l2i hx hb d_B_addSmall_43 rfl ?_
          refine lv_topi (fun x43 ex43 => ?_)
          refine z_iast hx hb hU hi hin44 d_B_addSmall_44 (fun H locs hU => ?_)
          generalize eg44 : sW (sW g i f) i (upd ((sW g i f).2.2.2 i).2.2 (nI q).toNatClampNeg x43) = g44 at hU
          refine lv_lload_n hx hb d_B_addSmall_45 rfl (lv_at hl 0 rfl) ?_
          refine lv_bipush (v := 32) hx hb d_B_addSmall_46 (by decide) ?_
          refine lv_lushr hx hb d_B_addSmall_48 rfl ?_
          refine lv_topl (fun x48 ex48 => ?_)
          refine lv_lstore_n (lv' := [(2, .long x48), (0, .ref (oA z i)), (1, .int (nI v)), (4, .int (nI q))]) hx hb d_B_addSmall_49 rfl hl (by decide) rfl (fun ls hl => ?_)
          obtain ⟨x50, ex50⟩ : ∃ y : Int32, y = (nI q) + Int32.ofInt 1 := ⟨_, rfl⟩
          refine lv_iinc (v := x50) (lv' := [(4, .int x50), (2, .long x48), (0, .ref (oA z i)), (1, .int (nI v))]) hx hb d_B_addSmall_50 hl (k := 3) rfl (by rw [ex50]) (by decide) rfl (fun ls hl => ?_)
          refine lv_goto (tgt := 6) hx hb d_B_addSmall_53 (by decide) ?_
          have a2 : x28 = F q := by
            rw [ex28, sW_s, nI_clamp (by omega)]
            exact hf q (Nat.le_refl q)
          have u33 : uN x33 = wn (F q) := by rw [ex33, ex29, a2]; exact uN_w _
          have w1 := wn_lt (F q)
          have u34 : uN x34 = uN cr + (wn (F q) + 0) := by
            rw [ex34, uN_add', u33]
            · rfl
            · rw [u33]; omega
          have u48 : uN x48 = uN x34 / 4294967296 := by rw [ex48]; exact uN_s32 _
          rw [← eg44, sW_sW, sW_s, nI_clamp (by omega)] at hU
          rw [ex50, show Int32.ofInt 1 = 1 from rfl, nI_1] at hl
          exact ih (q + 1) _ x48 _ _ ls (by omega) (by
            rw [vl_upds, ex43, wn_l2i, u48, Nat.pow_succ, vl_s]
            refine (vl_stepA (uN x34) hI u34).trans ?_
            omega) (by rw [u48]; omega) (fun t ht => by rw [pk_un (by omega)]; exact hf t (by omega)) hU (lv_sub hl [2, 3, 1, 0] rfl)
  refine lv_iload_n hx hb d_B_addSmall_0 rfl (lv_at hl 1 rfl) ?_
  refine lv_i2l hx hb d_B_addSmall_1 rfl ?_
  refine lv_topl (fun x1 ex1 => ?_)
  refine lv_lstore_n (lv' := [(2, .long x1), (0, .ref (oA z i)), (1, .int (nI v))]) hx hb d_B_addSmall_2 rfl hl (by decide) rfl (fun ls hl => ?_)
  refine lv_iconst (v := 0) hx hb d_B_addSmall_3 (by decide) ?_
  refine lv_istore (lv' := [(4, .int 0), (2, .long x1), (0, .ref (oA z i)), (1, .int (nI v))]) hx hb d_B_addSmall_4 hl (by decide) rfl (fun ls hl => ?_)
  have u1 : uN x1 = v := by rw [ex1]; exact uN_nI hv
  exact K n 0 F x1 _ _ ls (Nat.zero_add n) (by rw [u1]; show 0 + v * 1 = 0 + v; omega) (by omega) (fun _ _ => rfl) (by rw [← eF, sW_self]; exact hU) (lv_sub hl [2, 3, 1, 0] rfl)
end
section
/-! UnitFinder$Big: products, copies, residues -/
set_option maxHeartbeats 4000000 in
set_option maxRecDepth 100000 in
theorem c_addRow (l : Launch) (z : ZZ) (sz : Nat) (g : St) {i j : Nat} (hi : i < 10) (hj : j < 10) (hij : j ≠ i) {n : Nat} (hn : n ≤ 512) (hn1 : (g.2.2.2 j).1 = nI n) {a : Nat} (ha : a < 512) {fac : Int64} (hfac : uN fac < 4294967296) : Met l y_B_addRow (zw y_B_addRow b_B_addRow 9 none) { frames := 1, cells := 0, slots := 0, locals := 23 } (va_Pc [.ref (oA z i), .long fac, .ref (oA z j), .int (nI a)] (zI z g sz)) (va_Qv (fun g2 => ∃ f, g2 = sW g i f ∧ (a + n < 512 → vl f (a + n + 1) = vl (g.2.2.2 i).2.2 (a + n) + uN fac * vl (g.2.2.2 j).2.2 n * 4294967296 ^ a ∧ ∀ q, a + n < q → f q = (g.2.2.2 i).2.2 q) ∧ (512 ≤ a + n → vl f 512 % MM = (vl (g.2.2.2 i).2.2 512 + uN fac * vl (g.2.2.2 j).2.2 (512 - a) * 4294967296 ^ a) % MM)) (zO z sz) (zA z sz)) 0 0 (zA z sz) := by
  refine z_ofW (by decide) (Nat.le_of_ble_eq_true rfl) (fun p e s m below meth c hx hb hr hml hown hts hlocks hname hsz hN ls hU hl => ?_)
  have hl : lv_has ls 9 [(0, .ref (oA z i)), (1, .long fac), (3, .ref (oA z j)), (4, .int (nI a))] := hl
  obtain ⟨F, eF⟩ : ∃ y, y = (g.2.2.2 j).2.2 := ⟨_, rfl⟩
  obtain ⟨G, eG⟩ : ∃ y, y = (g.2.2.2 i).2.2 := ⟨_, rfl⟩
  obtain ⟨T, eT⟩ : ∃ y, y = min (a + n) 512 := ⟨_, rfl⟩
  have K : ∀ (d q : Nat) (f : Nat → Int32) (cr : Int64) (H : Heap) (locs : List Loc) (ls : Array Slot), a + q + d = T → vl f (a + q) + uN cr * 4294967296 ^ (a + q) = vl G (a + q) + uN fac * vl F q * 4294967296 ^ a → uN cr < 4294967296 → (∀ t, a + q ≤ t → f t = G t) → Ws z (sW g i f) s.heap H locs s → lv_has ls 9 [(0, .ref (oA z i)), (1, .long fac), (3, .ref (oA z j)), (4, .int (nI a)), (5, .long cr), (7, .int (nI T)), (8, .int (nI (a + q)))] → W p l e ({ frames := 1, cells := 0, slots := 0, locals := 23 } : Room) s m ([.ref (oA z i), .long fac, .ref (oA z j), .int (nI a)] : List Value).toArray below meth c H locs 0 0 (MQ below (va_Qv (fun g2 => ∃ f, g2 = sW g i f ∧ (a + n < 512 → vl f (a + n + 1) = vl (g.2.2.2 i).2.2 (a + n) + uN fac * vl (g.2.2.2 j).2.2 n * 4294967296 ^ a ∧ ∀ q, a + n < q → f q = (g.2.2.2 i).2.2 q) ∧ (512 ≤ a + n → vl f 512 % MM = (vl (g.2.2.2 i).2.2 512 + uN fac * vl (g.2.2.2 j).2.2 (512 - a) * 4294967296 ^ a) % MM)) (zO z sz) (zA z sz)) ([.ref (oA z i), .long fac, .ref (oA z j), .int (nI a)] : List Value).toArray s 0 0 (zA z sz)) (F0 m 22 ls []) := by
    intro d
    induction d with
    | zero =>
      intro q f cr H locs ls hq hI hc hf hU hl
      have hq : a + q = T := by omega
      rw [hq] at hl hI hf
      refine lv_iload hx hb d_B_addRow_22 (lv_at hl 6 rfl) ?_
      refine lv_iload hx hb d_B_addRow_24 (lv_at hl 5 rfl) ?_
      refine lv_icmp_ge (tgt := 87) hx hb d_B_addRow_26 (by decide) (fun c26 => ?_) (fun c26 => ?_)
      · refine lv_iload hx hb d_B_addRow_87 (lv_at hl 5 rfl) ?_
        refine lv_sipush (v := 512) hx hb d_B_addRow_89 (by decide) ?_
        refine lv_icmp_ge (tgt := 105) hx hb d_B_addRow_92 (by decide) (fun c92 => ?_) (fun c92 => ?_)
        · have h92 : 512 ≤ T := (nI_leI (a := 512) (b := T) (by decide) (by omega)).mp c92
          have hT : T = 512 := by omega
          have hq2 : q = 512 - a := by omega
          subst eF eG
          exact z_vret hx hb hr hlocks hsz hU ⟨f, rfl, fun h => by omega, fun h => by
            rw [hT, hq2, ← MM_def] at hI
            rw [← hI, Nat.add_mul_mod_self_right]⟩ d_B_addRow_105
        · have h92 : T < 512 := Nat.lt_of_not_le (fun q => c92 ((nI_leI (a := 512) (b := T) (by decide) (by omega)).mpr q))
          have hT : T = a + n := by omega
          have hq2 : q = n := by omega
          subst eF eG
          have hin104 : vp_in (nI T) 512 := vp_in_nI h92 (by decide)
          refine lv_aload_n hx hb d_B_addRow_95 rfl (lv_at hl 0 rfl) ?_
          refine va_get (D := z.1) (ci := 2) (v := .ref (rA z i)) (C := R_B) (T := F_B) (N := 3) hx hb hts in_B hown hU.2.1 hU.1 (2 + 2 * i) (uw_o z (sW g i f) hi) rfl 0 (by decide) (hts _ k_B_9) (fun _ h9 => h9) rfl d_B_addRow_96 ?_
          refine lv_iload hx hb d_B_addRow_99 (lv_at hl 5 rfl) ?_
          refine lv_lload hx hb d_B_addRow_101 (lv_at hl 4 rfl) ?_
          refine lv_l2i hx hb d_B_addRow_103 rfl ?_
          refine lv_topi (fun x103 ex103 => ?_)
          refine z_iast hx hb hU hi hin104 d_B_addRow_104 (fun H locs hU => ?_)
          generalize eg104 : sW (sW g i f) i (upd ((sW g i f).2.2.2 i).2.2 (nI T).toNatClampNeg x103) = g104 at hU
          rw [← eg104, sW_sW, sW_s, nI_clamp (by omega)] at hU
          exact z_vret hx hb hr hlocks hsz hU ⟨_, rfl, fun h => ⟨by
            rw [← hT, vl_upds, ex103, wn_l2i, Nat.mod_eq_of_lt hc]
            rw [hq2] at hI
            exact hI, fun t ht => by rw [pk_un (by omega)]; exact hf t (by omega)⟩, fun h => by omega⟩ d_B_addRow_105
      · exact absurd (Int32.le_refl _) c26
    | succ d ih =>
      intro q f cr H locs ls hq hI hc hf hU hl
      refine lv_iload hx hb d_B_addRow_22 (lv_at hl 6 rfl) ?_
      refine lv_iload hx hb d_B_addRow_24 (lv_at hl 5 rfl) ?_
      refine lv_icmp_ge (tgt := 87) hx hb d_B_addRow_26 (by decide) (fun c26 => ?_) (fun c26 => ?_)
      · exact absurd c26 (nI_ge (by omega) (by omega))
      · refine lv_lload hx hb d_B_addRow_29 (lv_at hl 4 rfl) ?_
        refine lv_lload_n hx hb d_B_addRow_31 rfl (lv_at hl 1 rfl) ?_
        refine lv_aload_n hx hb d_B_addRow_32 rfl (lv_at hl 2 rfl) ?_
        refine va_get (D := z.1) (ci := 2) (v := .ref (rA z j)) (C := R_B) (T := F_B) (N := 3) hx hb hts in_B hown hU.2.1 hU.1 (2 + 2 * j) (uw_o z (sW g i f) hj) rfl 0 (by decide) (hts _ k_B_9) (fun _ h9 => h9) rfl d_B_addRow_33 ?_
        refine lv_iload hx hb d_B_addRow_36 (lv_at hl 6 rfl) ?_
        refine lv_iload hx hb d_B_addRow_38 (lv_at hl 3 rfl) ?_
        refine lv_isub hx hb d_B_addRow_40 ?_
        refine lv_topi (fun x40 ex40 => ?_)
        have e40 : x40 = nI q := by rw [ex40, pk_sub (by omega), Nat.add_sub_cancel_left]
        have hin41 : vp_in x40 512 := by rw [e40]; exact vp_in_nI (by omega) (by decide)
        have hin54 : vp_in (nI (a + q)) 512 := vp_in_nI (by omega) (by decide)
        have hin73 := hin54
        refine va_iald hx hb hU.2.1 hU.1 (3 + 2 * j) j (uw_w z (sW g i f) hj) (zty_a z hj) hin41 d_B_addRow_41 ?_
        refine lv_topi (fun x41 ex41 => ?_)
        refine lv_i2l hx hb d_B_addRow_42 rfl ?_
        refine lv_topl (fun x42 ex42 => ?_)
        refine lv_ldc2 (v := 4294967295) hx hb hown (hts _ k_B_39) d_B_addRow_43 ?_
        refine lv_land hx hb d_B_addRow_46 ?_
        refine lv_topl (fun x46 ex46 => ?_)
        refine lv_lmul hx hb d_B_addRow_47 ?_
        refine lv_topl (fun x47 ex47 => ?_)
        refine lv_aload_n hx hb d_B_addRow_48 rfl (lv_at hl 0 rfl) ?_
        refine va_get (D := z.1) (ci := 2) (v := .ref (rA z i)) (C := R_B) (T := F_B) (N := 3) hx hb hts in_B hown hU.2.1 hU.1 (2 + 2 * i) (uw_o z (sW g i f) hi) rfl 0 (by decide) (hts _ k_B_9) (fun _ h9 => h9) rfl d_B_addRow_49 ?_
        refine lv_iload hx hb d_B_addRow_52 (lv_at hl 6 rfl) ?_
        refine va_iald hx hb hU.2.1 hU.1 (3 + 2 * i) i (uw_w z (sW g i f) hi) (zty_a z hi) hin54 d_B_addRow_54 ?_
        refine lv_topi (fun x54 ex54 => ?_)
        refine lv_i2l hx hb d_B_addRow_55 rfl ?_
        refine lv_topl (fun x55 ex55 => ?_)
        refine lv_ldc2 (v := 4294967295) hx hb hown (hts _ k_B_39) d_B_addRow_56 ?_
        refine lv_land hx hb d_B_addRow_59 ?_
        refine lv_topl (fun x59 ex59 => ?_)
        refine lv_ladd hx hb d_B_addRow_60 ?_
        refine lv_topl (fun x60 ex60 => ?_)
        refine lv_ladd hx hb d_B_addRow_61 ?_
        refine lv_topl (fun x61 ex61 => ?_)
        refine lv_lstore (lv' := [(5, .long x61), (0, .ref (oA z i)), (1, .long fac), (3, .ref (oA z j)), (4, .int (nI a)), (7, .int (nI T)), (8, .int (nI (a + q)))]) hx hb d_B_addRow_62 hl (by decide) rfl (fun ls hl => ?_)
        refine lv_aload_n hx hb d_B_addRow_64 rfl (lv_at hl 1 rfl) ?_
        refine va_get (D := z.1) (ci := 2) (v := .ref (rA z i)) (C := R_B) (T := F_B) (N := 3) hx hb hts in_B hown hU.2.1 hU.1 (2 + 2 * i) (uw_o z (sW g i f) hi) rfl 0 (by decide) (hts _ k_B_9) (fun _ h9 => h9) rfl d_B_addRow_65 ?_
        refine lv_iload hx hb d_B_addRow_68 (lv_at hl 6 rfl) ?_
        refine lv_lload hx hb d_B_addRow_70 (lv_at hl 0 rfl) ?_
        refine lv_l2i hx hb d_B_addRow_72 rfl ?_
        refine lv_topi (fun x72 ex72 => ?_)
        refine z_iast hx hb hU hi hin73 d_B_addRow_73 (fun H locs hU => ?_)
        generalize eg73 : sW (sW g i f) i (upd ((sW g i f).2.2.2 i).2.2 (nI (a + q)).toNatClampNeg x72) = g73 at hU
        refine lv_lload hx hb d_B_addRow_74 (lv_at hl 0 rfl) ?_
        refine lv_bipush (v := 32) hx hb d_B_addRow_76 (by decide) ?_
        refine lv_lushr hx hb d_B_addRow_78 rfl ?_
        refine lv_topl (fun x78 ex78 => ?_)
        refine lv_lstore (lv' := [(5, .long x78), (0, .ref (oA z i)), (1, .long fac), (3, .ref (oA z j)), (4, .int (nI a)), (7, .int (nI T)), (8, .int (nI (a + q)))]) hx hb d_B_addRow_79 hl (by decide) rfl (fun ls hl => ?_)
        obtain ⟨x81, ex81⟩ : ∃ y : Int32, y = (nI (a + q)) + Int32.ofInt 1 := ⟨_, rfl⟩
        refine lv_iinc (v := x81) (lv' := [(8, .int x81), (5, .long x78), (0, .ref (oA z i)), (1, .long fac), (3, .ref (oA z j)), (4, .int (nI a)), (7, .int (nI T))]) hx hb d_B_addRow_81 hl (k := 6) rfl (by rw [ex81]) (by decide) rfl (fun ls hl => ?_)
        refine lv_goto (tgt := 22) hx hb d_B_addRow_84 (by decide) ?_
        have a1 : x41 = F q := by rw [ex41, sW_n _ _ hij, e40, nI_clamp (by omega), eF]
        have a2 : x54 = G (a + q) := by
          rw [ex54, sW_s, nI_clamp (by omega)]
          exact hf _ (Nat.le_refl _)
        have u46 : uN x46 = wn (F q) := by rw [ex46, ex42, a1]; exact uN_w _
        have u59 : uN x59 = wn (G (a + q)) := by rw [ex59, ex55, a2]; exact uN_w _
        have w1 := wn_lt (F q)
        have w2 := wn_lt (G (a + q))
        have b47 : uN fac * wn (F q) ≤ 4294967295 * 4294967295 := Nat.mul_le_mul (by omega) (by omega)
        have u47 : uN x47 = uN fac * wn (F q) := by
          rw [ex47, uN_mul', u46]
          rw [u46]; omega
        have u60 : uN x60 = uN fac * wn (F q) + wn (G (a + q)) := by
          rw [ex60, uN_add', u47, u59]
          rw [u47, u59]; omega
        have u61 : uN x61 = uN cr + (uN fac * wn (F q) + wn (G (a + q))) := by
          rw [ex61, uN_add', u60]
          rw [u60]; omega
        have u78 : uN x78 = uN x61 / 4294967296 := by rw [ex78]; exact uN_s32 _
        rw [← eg73, sW_sW, sW_s, nI_clamp (by omega)] at hU
        rw [ex81, show Int32.ofInt 1 = 1 from rfl, nI_1] at hl
        exact ih (q + 1) _ x78 _ _ ls (by omega) (by
          rw [← Nat.add_assoc, vl_upds, ex72, wn_l2i, u78, Nat.pow_succ, vl_s, vl_s]
          have h9 := vl_stepA (uN x61) (X := uN fac * vl F q * 4294967296 ^ a) (Y := vl G (a + q)) (hI.trans (Nat.add_comm _ _)) u61
          have h8 : uN fac * (vl F q + wn (F q) * 4294967296 ^ q) * 4294967296 ^ a = uN fac * vl F q * 4294967296 ^ a + uN fac * wn (F q) * 4294967296 ^ (a + q) := by
            rw [Nat.mul_add, Nat.add_mul, Nat.pow_add]
            congr 1
            ac_rfl
          refine h9.trans ?_
          rw [h8]
          omega) (by rw [u78]; omega) (fun t ht => by rw [pk_un (by omega)]; exact hf t (by omega)) hU (lv_sub hl [2, 3, 4, 5, 1, 6, 0] rfl)
  refine lv_lconst (v := 0) hx hb d_B_addRow_0 (by decide) ?_
  refine lv_lstore (lv' := [(5, .long 0), (0, .ref (oA z i)), (1, .long fac), (3, .ref (oA z j)), (4, .int (nI a))]) hx hb d_B_addRow_1 hl (by decide) rfl (fun ls hl => ?_)
  refine lv_iload hx hb d_B_addRow_3 (lv_at hl 4 rfl) ?_
  refine lv_aload_n hx hb d_B_addRow_5 rfl (lv_at hl 3 rfl) ?_
  refine va_get (D := z.1) (ci := 2) (v := .int ((g.2.2.2 j).1)) (C := R_B) (T := F_B) (N := 3) hx hb hts in_B hown hU.2.1 hU.1 (2 + 2 * j) (uw_o z g hj) rfl 1 (by decide) (hts _ k_B_23) (fun _ h9 => h9) rfl d_B_addRow_6 ?_
  refine lv_topi (fun x6 ex6 => ?_)
  refine lv_iadd hx hb d_B_addRow_9 ?_
  refine lv_topi (fun x9 ex9 => ?_)
  refine lv_sipush (v := 512) hx hb d_B_addRow_10 (by decide) ?_
  refine va_mmin hx hb (hml.trans hl.1.symm) hown (hts _ k_B_47) (hts _ q_min_st) (hts _ q_math) (hts _ q_min_co) (Nat.le_of_ble_eq_true rfl) (Nat.le_of_ble_eq_true rfl) (Nat.zero_le _) (Nat.zero_le _) d_B_addRow_13 ?_
  refine lv_topi (fun x13 ex13 => ?_)
  refine lv_istore (lv' := [(7, .int x13), (5, .long 0), (0, .ref (oA z i)), (1, .long fac), (3, .ref (oA z j)), (4, .int (nI a))]) hx hb d_B_addRow_16 hl (by decide) rfl (fun ls hl => ?_)
  refine lv_iload hx hb d_B_addRow_18 (lv_at hl 5 rfl) ?_
  refine lv_istore (lv' := [(8, .int (nI a)), (7, .int x13), (5, .long 0), (0, .ref (oA z i)), (1, .long fac), (3, .ref (oA z j)), (4, .int (nI a))]) hx hb d_B_addRow_20 hl (by decide) rfl (fun ls hl => ?_)
  have e13 : x13 = nI T := by
    rw [ex13, ex9, ex6, hn1, nI_add, eT]
    exact min_nI (by omega) (by decide)
  rw [e13] at hl
  exact K (T - a) 0 G 0 _ _ ls (by omega) (by show vl G a + 0 * _ = vl G a + uN fac * 0 * _; omega) (by decide) (fun _ _ => rfl) (by rw [eG, sW_self]; exact hU) (lv_sub hl [3, 4, 5, 6, 2, 1, 0] rfl)
set_option maxHeartbeats 4000000 in
set_option maxRecDepth 100000 in
theorem c_setProduct (l : Launch) (z : ZZ) (sz : Nat) (g : St) {i j k : Nat} (hi : i < 10) (hj : j < 10) (hk : k < 10) (hij : j ≠ i) (hik : k ≠ i) (hok : bOk (g.2.2.2 j)) (hok2 : bOk (g.2.2.2 k)) : Met l y_B_setProduct (zw y_B_setProduct b_B_setProduct 5 none) { frames := 2, cells := 0, slots := 0, locals := 51 } (va_Pc [.ref (oA z i), .ref (oA z j), .ref (oA z k)] (zI z g sz)) (va_Qv (fun g2 => ∃ b, g2 = sG g i b ∧ bOk b ∧ b.2.1 = (if (g.2.2.2 j).2.1 = (g.2.2.2 k).2.1 then 0 else 1) ∧ bv b = bv (g.2.2.2 j) * bv (g.2.2.2 k) % MM) (zO z sz) (zA z sz)) 0 0 (zA z sz) := by
  refine z_ofW (by decide) (Nat.le_of_ble_eq_true rfl) (fun p e s m below meth c hx hb hr hml hown hts hlocks hname hsz hN ls hU hl => ?_)
  have hl : lv_has ls 5 [(0, .ref (oA z i)), (1, .ref (oA z j)), (2, .ref (oA z k))] := hl
  obtain ⟨n, hn, hn1, hbel, htop⟩ := hok
  have hbv : bv (g.2.2.2 j) = vl (g.2.2.2 j).2.2 n := bv_of hn hn1
  obtain ⟨r, hr0, hr1, hrbel, hrtop⟩ := hok2
  have hbr : bv (g.2.2.2 k) = vl (g.2.2.2 k).2.2 r := bv_of hr0 hr1
  generalize eF : (g.2.2.2 j).2.2 = F at hbv htop
  generalize eG : (g.2.2.2 k).2.2 = G at hbr hrtop
  obtain ⟨T, eT⟩ : ∃ y, y = min (n + r) 512 := ⟨_, rfl⟩
  have hT : T ≤ 512 := by omega
  have E93 : ∀ (v : Int32) (f : Nat → Int32) (q : Int32) (H : Heap) (locs : List Loc) (ls : Array Slot), (v = 0 ∨ v = 1) → v = (if (g.2.2.2 j).2.1 = (g.2.2.2 k).2.1 then 0 else 1) → vl f T % MM = vl F n * vl G r % MM → Ws z (sW g i f) s.heap H locs s → lv_has ls 5 [(0, .ref (oA z i)), (1, .ref (oA z j)), (2, .ref (oA z k)), (3, .int (nI T)), (4, .int q)] → W p l e ({ frames := 2, cells := 0, slots := 0, locals := 51 } : Room) s m ([.ref (oA z i), .ref (oA z j), .ref (oA z k)] : List Value).toArray below meth c H locs 0 0 (MQ below (va_Qv (fun g2 => ∃ b, g2 = sG g i b ∧ bOk b ∧ b.2.1 = (if (g.2.2.2 j).2.1 = (g.2.2.2 k).2.1 then 0 else 1) ∧ bv b = bv (g.2.2.2 j) * bv (g.2.2.2 k) % MM) (zO z sz) (zA z sz)) ([.ref (oA z i), .ref (oA z j), .ref (oA z k)] : List Value).toArray s 0 0 (zA z sz)) (F0 m 93 ls [.int v, .ref (oA z i)]) := by
    intro v f q H locs ls hbo93 hv hI hU hl
    refine zp_B hx hb hts hown hU hi (hts _ k_B_15) hbo93 d_B_setProduct_93 (fun H locs hU => ?_)
    generalize eg93 : sG (sW g i f) i (((sW g i f).2.2.2 i).1, v, ((sW g i f).2.2.2 i).2.2) = g93 at hU
    refine lv_aload_n hx hb d_B_setProduct_96 rfl (lv_at hl 0 rfl) ?_
    refine lv_iload_n hx hb d_B_setProduct_97 rfl (lv_at hl 3 rfl) ?_
    refine lv_lconst (v := 0) hx hb d_B_setProduct_98 (by decide) ?_
    have e93 : (g93.2.2.2 i) = ((g.2.2.2 i).1, v, f) := by rw [← eg93, sG_s, sW_s]
    refine z_callv (z_run (As := [.int (nI T), .long 0]) (rest := []) hx hb hml hown hts hU hN (c_close l z _ g93 hi (by rw [e93]; exact hbo93) hT 0) (w_B_close_cw hts k_B_19 rfl rfl ⟨Nat.le_of_ble_eq_true rfl, Nat.le_of_ble_eq_true rfl⟩) (z_recvB hU hi) rfl hl.1 rfl (lv_room (Nat.le_of_ble_eq_true rfl)) d_B_setProduct_99 ⟨Nat.zero_le _, Nat.zero_le _⟩) hU (fun g3 H locs hp hU => ?_)
    obtain ⟨b, rfl, hb1, hb2, hb3⟩ := hp
    rw [← eg93, sG_sG, sW_eq, sG_sG] at hU
    exact z_vret hx hb hr hlocks hsz hU ⟨b, rfl, hb1, by rw [hb2, e93]; exact hv, by
      rw [hb3, e93, uN_0, Nat.zero_mod, Nat.zero_mul, Nat.add_zero, hbv, hbr]
      exact hI⟩ d_B_setProduct_102
  have K : ∀ (d q : Nat) (f : Nat → Int32) (H : Heap) (locs : List Loc) (ls : Array Slot), q + d = n → vl f T % MM = vl F q * vl G r % MM → (∀ t, q + r ≤ t → t < T → f t = 0) → Ws z (sW g i f) s.heap H locs s → lv_has ls 5 [(0, .ref (oA z i)), (1, .ref (oA z j)), (2, .ref (oA z k)), (3, .int (nI T)), (4, .int (nI q))] → W p l e ({ frames := 2, cells := 0, slots := 0, locals := 51 } : Room) s m ([.ref (oA z i), .ref (oA z j), .ref (oA z k)] : List Value).toArray below meth c H locs 0 0 (MQ below (va_Qv (fun g2 => ∃ b, g2 = sG g i b ∧ bOk b ∧ b.2.1 = (if (g.2.2.2 j).2.1 = (g.2.2.2 k).2.1 then 0 else 1) ∧ bv b = bv (g.2.2.2 j) * bv (g.2.2.2 k) % MM) (zO z sz) (zA z sz)) ([.ref (oA z i), .ref (oA z j), .ref (oA z k)] : List Value).toArray s 0 0 (zA z sz)) (F0 m 42 ls []) := by
    intro d
    induction d with
    | zero =>
      intro q f H locs ls hq hI hf hU hl
      have hq : q = n := by omega
      subst hq
      refine lv_iload hx hb d_B_setProduct_42 (lv_at hl 4 rfl) ?_
      refine lv_aload_n hx hb d_B_setProduct_44 rfl (lv_at hl 1 rfl) ?_
      refine va_get (D := z.1) (ci := 2) (v := .int (((sW g i f).2.2.2 j).1)) (C := R_B) (T := F_B) (N := 3) hx hb hts in_B hown hU.2.1 hU.1 (2 + 2 * j) (uw_o z (sW g i f) hj) rfl 1 (by decide) (hts _ k_B_23) (fun _ h9 => h9) rfl d_B_setProduct_45 ?_
      refine lv_topi (fun x45 ex45 => ?_)
      have e45 : x45 = nI q := by rw [ex45, sW_n _ _ hij, hn1]
      refine lv_icmp_ge (tgt := 76) hx hb d_B_setProduct_48 (by decide) (fun c48 => ?_) (fun c48 => ?_)
      · refine lv_aload_n hx hb d_B_setProduct_76 rfl (lv_at hl 0 rfl) ?_
        refine lv_aload_n hx hb d_B_setProduct_77 rfl (lv_at hl 1 rfl) ?_
        refine va_get (D := z.1) (ci := 2) (v := .int (((sW g i f).2.2.2 j).2.1)) (C := R_B) (T := F_B) (N := 3) hx hb hts in_B hown hU.2.1 hU.1 (2 + 2 * j) (uw_o z (sW g i f) hj) rfl 2 (by decide) (hts _ k_B_15) (fun _ h9 => h9) rfl d_B_setProduct_78 ?_
        refine lv_topi (fun x78 ex78 => ?_)
        refine lv_aload_n hx hb d_B_setProduct_81 rfl (lv_at hl 2 rfl) ?_
        refine va_get (D := z.1) (ci := 2) (v := .int (((sW g i f).2.2.2 k).2.1)) (C := R_B) (T := F_B) (N := 3) hx hb hts in_B hown hU.2.1 hU.1 (2 + 2 * k) (uw_o z (sW g i f) hk) rfl 2 (by decide) (hts _ k_B_15) (fun _ h9 => h9) rfl d_B_setProduct_82 ?_
        refine lv_topi (fun x82 ex82 => ?_)
        have e78 : x78 = (g.2.2.2 j).2.1 := by rw [ex78, sW_n _ _ hij]
        have e82 : x82 = (g.2.2.2 k).2.1 := by rw [ex82, sW_n _ _ hik]
        refine lv_icmp_eq (tgt := 92) hx hb d_B_setProduct_85 (by decide) (fun c85 => ?_) (fun c85 => ?_)
        · refine lv_iconst (v := 0) hx hb d_B_setProduct_92 (by decide) ?_
          exact E93 0 f _ _ _ ls (Or.inl rfl) (by rw [← e78, ← e82, if_pos c85]) hI hU hl
        · refine lv_iconst (v := 1) hx hb d_B_setProduct_88 (by decide) ?_
          refine lv_goto (tgt := 93) hx hb d_B_setProduct_89 (by decide) ?_
          exact E93 1 f _ _ _ ls (Or.inr rfl) (by rw [← e78, ← e82, if_neg c85]) hI hU hl
      · exact absurd (by rw [e45]; exact Int32.le_refl _) c48
    | succ d ih =>
      intro q f H locs ls hq hI hf hU hl
      refine lv_iload hx hb d_B_setProduct_42 (lv_at hl 4 rfl) ?_
      refine lv_aload_n hx hb d_B_setProduct_44 rfl (lv_at hl 1 rfl) ?_
      refine va_get (D := z.1) (ci := 2) (v := .int (((sW g i f).2.2.2 j).1)) (C := R_B) (T := F_B) (N := 3) hx hb hts in_B hown hU.2.1 hU.1 (2 + 2 * j) (uw_o z (sW g i f) hj) rfl 1 (by decide) (hts _ k_B_23) (fun _ h9 => h9) rfl d_B_setProduct_45 ?_
      refine lv_topi (fun x45 ex45 => ?_)
      have e45 : x45 = nI n := by rw [ex45, sW_n _ _ hij, hn1]
      refine lv_icmp_ge (tgt := 76) hx hb d_B_setProduct_48 (by decide) (fun c48 => ?_) (fun c48 => ?_)
      · exact absurd (by rw [e45] at c48; exact c48) (nI_ge (by omega) (by omega))
      · have hin58 : vp_in (nI q) 512 := vp_in_nI (by omega) (by decide)
        refine lv_aload_n hx hb d_B_setProduct_51 rfl (lv_at hl 0 rfl) ?_
        refine lv_aload_n hx hb d_B_setProduct_52 rfl (lv_at hl 1 rfl) ?_
        refine va_get (D := z.1) (ci := 2) (v := .ref (rA z j)) (C := R_B) (T := F_B) (N := 3) hx hb hts in_B hown hU.2.1 hU.1 (2 + 2 * j) (uw_o z (sW g i f) hj) rfl 0 (by decide) (hts _ k_B_9) (fun _ h9 => h9) rfl d_B_setProduct_53 ?_
        refine lv_iload hx hb d_B_setProduct_56 (lv_at hl 4 rfl) ?_
        refine va_iald hx hb hU.2.1 hU.1 (3 + 2 * j) j (uw_w z (sW g i f) hj) (zty_a z hj) hin58 d_B_setProduct_58 ?_
        refine lv_topi (fun x58 ex58 => ?_)
        refine lv_i2l hx hb d_B_setProduct_59 rfl ?_
        refine lv_topl (fun x59 ex59 => ?_)
        refine lv_ldc2 (v := 4294967295) hx hb hown (hts _ k_B_39) d_B_setProduct_60 ?_
        refine lv_land hx hb d_B_setProduct_63 ?_
        refine lv_topl (fun x63 ex63 => ?_)
        refine lv_aload_n hx hb d_B_setProduct_64 rfl (lv_at hl 2 rfl) ?_
        refine lv_iload hx hb d_B_setProduct_65 (lv_at hl 4 rfl) ?_
        have a1 : x58 = F q := by rw [ex58, sW_n _ _ hij, nI_clamp (by omega), eF]
        have u63 : uN x63 = wn (F q) := by rw [ex63, ex59, a1]; exact uN_w _
        have w1 := wn_lt (F q)
        refine z_callv (z_run (As := [.long x63, .ref (oA z k), .int (nI q)]) (rest := []) hx hb hml hown hts hU hN (c_addRow l z _ (sW g i f) hi hk hik hr0 (by rw [sW_n _ _ hik]; exact hr1) (a := q) (by omega) (fac := x63) (by omega)) (w_B_addRow_cw hts k_B_51 rfl rfl ⟨Nat.le_of_ble_eq_true rfl, Nat.le_of_ble_eq_true rfl⟩) (z_recvB hU hi) rfl hl.1 rfl (lv_room (Nat.le_of_ble_eq_true rfl)) d_B_setProduct_67 ⟨Nat.zero_le _, Nat.zero_le _⟩) hU (fun g67 H locs hp67 hU => ?_)
        obtain ⟨f2, rfl, hA, hB⟩ := hp67
        rw [sW_sW] at hU
        rw [sW_s, sW_n _ _ hik, eG, u63] at hA hB
        obtain ⟨x70, ex70⟩ : ∃ y : Int32, y = (nI q) + Int32.ofInt 1 := ⟨_, rfl⟩
        refine lv_iinc (v := x70) (lv' := [(4, .int x70), (0, .ref (oA z i)), (1, .ref (oA z j)), (2, .ref (oA z k)), (3, .int (nI T))]) hx hb d_B_setProduct_70 hl (k := 4) rfl (by rw [ex70]) (by decide) rfl (fun ls hl => ?_)
        refine lv_goto (tgt := 42) hx hb d_B_setProduct_73 (by decide) ?_
        rw [ex70, show Int32.ofInt 1 = 1 from rfl, nI_1] at hl
        have h5 : vl F (q + 1) * vl G r = vl F q * vl G r + wn (F q) * vl G r * 4294967296 ^ q := by
          rw [vl_s, Nat.add_mul]
          congr 1
          ac_rfl
        rcases Nat.lt_or_ge (q + r) 512 with h6 | h6
        · obtain ⟨h7, h8⟩ := hA h6
          have hz1 : vl f T = vl f (q + r) := vl_zero (by omega) (fun t h1 h2 => hf t h1 h2)
          have hz2 : vl f2 T = vl f2 (q + r + 1) := vl_zero (by omega) (fun t h1 h2 => by rw [h8 t (by omega)]; exact hf t (by omega) h2)
          exact ih (q + 1) f2 _ _ ls (by omega) (by
            rw [hz2, h7, h5, ← hz1]
            exact Nat.add_mod_right_cancel' hI) (fun t h1 h2 => by rw [h8 t (by omega)]; exact hf t (by omega) h2) hU (lv_sub hl [1, 2, 3, 4, 0] rfl)
        · have h7 := hB h6
          have hT2 : T = 512 := by omega
          exact ih (q + 1) f2 _ _ ls (by omega) (by
            rw [hT2] at hI ⊢
            rw [h7, h5]
            exact mod_row hI (by omega) (by omega)) (fun t h1 h2 => by omega) hU (lv_sub hl [1, 2, 3, 4, 0] rfl)
  have Z : ∀ (d q : Nat) (f : Nat → Int32) (H : Heap) (locs : List Loc) (ls : Array Slot), q + d = T → (∀ t, t < q → f t = 0) → Ws z (sW g i f) s.heap H locs s → lv_has ls 5 [(0, .ref (oA z i)), (1, .ref (oA z j)), (2, .ref (oA z k)), (3, .int (nI T)), (4, .int (nI q))] → W p l e ({ frames := 2, cells := 0, slots := 0, locals := 51 } : Room) s m ([.ref (oA z i), .ref (oA z j), .ref (oA z k)] : List Value).toArray below meth c H locs 0 0 (MQ below (va_Qv (fun g2 => ∃ b, g2 = sG g i b ∧ bOk b ∧ b.2.1 = (if (g.2.2.2 j).2.1 = (g.2.2.2 k).2.1 then 0 else 1) ∧ bv b = bv (g.2.2.2 j) * bv (g.2.2.2 k) % MM) (zO z sz) (zA z sz)) ([.ref (oA z i), .ref (oA z j), .ref (oA z k)] : List Value).toArray s 0 0 (zA z sz)) (F0 m 19 ls []) := by
    intro d
    induction d with
    | zero =>
      intro q f H locs ls hq hf hU hl
      have hq : q = T := by omega
      rw [hq] at hl hf
      refine lv_iload hx hb d_B_setProduct_19 (lv_at hl 4 rfl) ?_
      refine lv_iload_n hx hb d_B_setProduct_21 rfl (lv_at hl 3 rfl) ?_
      refine lv_icmp_ge (tgt := 39) hx hb d_B_setProduct_22 (by decide) (fun c22 => ?_) (fun c22 => ?_)
      · refine lv_iconst (v := 0) hx hb d_B_setProduct_39 (by decide) ?_
        refine lv_istore (lv' := [(4, .int 0), (0, .ref (oA z i)), (1, .ref (oA z j)), (2, .ref (oA z k)), (3, .int (nI T))]) hx hb d_B_setProduct_40 hl (by decide) rfl (fun ls hl => ?_)
        exact K n 0 f _ _ ls (Nat.zero_add n) (by rw [vl_zero (Nat.zero_le T) (fun t _ h2 => hf t h2)]; show 0 % MM = 0 * _ % MM; rw [Nat.zero_mul]) (fun t _ h2 => hf t h2) hU (lv_sub hl [1, 2, 3, 4, 0] rfl)
      · exact absurd (Int32.le_refl _) c22
    | succ d ih =>
      intro q f H locs ls hq hf hU hl
      refine lv_iload hx hb d_B_setProduct_19 (lv_at hl 4 rfl) ?_
      refine lv_iload_n hx hb d_B_setProduct_21 rfl (lv_at hl 3 rfl) ?_
      refine lv_icmp_ge (tgt := 39) hx hb d_B_setProduct_22 (by decide) (fun c22 => ?_) (fun c22 => ?_)
      · exact absurd c22 (nI_ge (by omega) (by omega))
      · have hin32 : vp_in (nI q) 512 := vp_in_nI (by omega) (by decide)
        refine lv_aload_n hx hb d_B_setProduct_25 rfl (lv_at hl 0 rfl) ?_
        refine va_get (D := z.1) (ci := 2) (v := .ref (rA z i)) (C := R_B) (T := F_B) (N := 3) hx hb hts in_B hown hU.2.1 hU.1 (2 + 2 * i) (uw_o z (sW g i f) hi) rfl 0 (by decide) (hts _ k_B_9) (fun _ h9 => h9) rfl d_B_setProduct_26 ?_
        refine lv_iload hx hb d_B_setProduct_29 (lv_at hl 4 rfl) ?_
        refine lv_iconst (v := 0) hx hb d_B_setProduct_31 (by decide) ?_
        refine z_iast hx hb hU hi hin32 d_B_setProduct_32 (fun H locs hU => ?_)
        generalize eg32 : sW (sW g i f) i (upd ((sW g i f).2.2.2 i).2.2 (nI q).toNatClampNeg 0) = g32 at hU
        obtain ⟨x33, ex33⟩ : ∃ y : Int32, y = (nI q) + Int32.ofInt 1 := ⟨_, rfl⟩
        refine lv_iinc (v := x33) (lv' := [(4, .int x33), (0, .ref (oA z i)), (1, .ref (oA z j)), (2, .ref (oA z k)), (3, .int (nI T))]) hx hb d_B_setProduct_33 hl (k := 4) rfl (by rw [ex33]) (by decide) rfl (fun ls hl => ?_)
        refine lv_goto (tgt := 19) hx hb d_B_setProduct_36 (by decide) ?_
        rw [← eg32, sW_sW, sW_s, nI_clamp (by omega)] at hU
        rw [ex33, show Int32.ofInt 1 = 1 from rfl, nI_1] at hl
        exact ih (q + 1) _ _ _ ls (by omega) (fun t ht => by
          by_cases h : t = q
          · rw [h, pk_us]
          · rw [pk_un h]; exact hf t (by omega)) hU (lv_sub hl [1, 2, 3, 4, 0] rfl)
  refine lv_aload_n hx hb d_B_setProduct_0 rfl (lv_at hl 1 rfl) ?_
  refine va_get (D := z.1) (ci := 2) (v := .int ((g.2.2.2 j).1)) (C := R_B) (T := F_B) (N := 3) hx hb hts in_B hown hU.2.1 hU.1 (2 + 2 * j) (uw_o z g hj) rfl 1 (by decide) (hts _ k_B_23) (fun _ h9 => h9) rfl d_B_setProduct_1 ?_
  refine lv_topi (fun x1 ex1 => ?_)
  refine lv_aload_n hx hb d_B_setProduct_4 rfl (lv_at hl 2 rfl) ?_
  refine va_get (D := z.1) (ci := 2) (v := .int ((g.2.2.2 k).1)) (C := R_B) (T := F_B) (N := 3) hx hb hts in_B hown hU.2.1 hU.1 (2 + 2 * k) (uw_o z g hk) rfl 1 (by decide) (hts _ k_B_23) (fun _ h9 => h9) rfl d_B_setProduct_5 ?_
  refine lv_topi (fun x5 ex5 => ?_)
  refine lv_iadd hx hb d_B_setProduct_8 ?_
  refine lv_topi (fun x8 ex8 => ?_)
  refine lv_sipush (v := 512) hx hb d_B_setProduct_9 (by decide) ?_
  refine va_mmin hx hb (hml.trans hl.1.symm) hown (hts _ k_B_47) (hts _ q_min_st) (hts _ q_math) (hts _ q_min_co) (Nat.le_of_ble_eq_true rfl) (Nat.le_of_ble_eq_true rfl) (Nat.zero_le _) (Nat.zero_le _) d_B_setProduct_12 ?_
  refine lv_topi (fun x12 ex12 => ?_)
  refine lv_istore_n (lv' := [(3, .int x12), (0, .ref (oA z i)), (1, .ref (oA z j)), (2, .ref (oA z k))]) hx hb d_B_setProduct_15 rfl hl (by decide) rfl (fun ls hl => ?_)
  refine lv_iconst (v := 0) hx hb d_B_setProduct_16 (by decide) ?_
  refine lv_istore (lv' := [(4, .int 0), (3, .int x12), (0, .ref (oA z i)), (1, .ref (oA z j)), (2, .ref (oA z k))]) hx hb d_B_setProduct_17 hl (by decide) rfl (fun ls hl => ?_)
  have e12 : x12 = nI T := by
    rw [ex12, ex8, ex1, ex5, hn1, hr1, nI_add, eT]
    exact min_nI (by omega) (by decide)
  rw [e12] at hl
  exact Z T 0 (g.2.2.2 i).2.2 _ _ ls (Nat.zero_add T) (fun t h => by omega) (by rw [sW_self]; exact hU) (lv_sub hl [2, 3, 4, 1, 0] rfl)
set_option maxHeartbeats 4000000 in
set_option maxRecDepth 100000 in
theorem c_modulo (l : Launch) (z : ZZ) (sz : Nat) (g : St) {i : Nat} (hi : i < 10) (hok : bOk (g.2.2.2 i)) {M : Nat} (hM0 : 0 < M) (hM : M < 2 ^ 31) : Met l y_B_modulo (zw y_B_modulo b_B_modulo 5 (some .long)) { frames := 0, cells := 0, slots := 0, locals := 0 } (va_Pc [.ref (oA z i), .int (nI M)] (zI z g sz)) (va_Ql (fun r g2 => g2 = g ∧ r.toInt = bz (g.2.2.2 i) % (M : Int)) (zO z sz) (zA z sz)) 0 0 (zA z sz) := by
  refine z_ofW (by decide) (Nat.le_of_ble_eq_true rfl) (fun p e s m below meth c hx hb hr hml hown hts hlocks hname hsz hN ls hU hl => ?_)
  have hl : lv_has ls 5 [(0, .ref (oA z i)), (1, .int (nI M))] := hl
  obtain ⟨n, hn, hn1, hbel, htop⟩ := hok
  have hbv : bv (g.2.2.2 i) = vl (g.2.2.2 i).2.2 n := bv_of hn hn1
  generalize eF : (g.2.2.2 i).2.2 = F at hbv htop
  have K : ∀ (q : Nat) (rs : Int64) (H : Heap) (locs : List Loc) (ls : Array Slot), q ≤ n → uN rs = vl F n / 4294967296 ^ q % M → Ws z g s.heap H locs s → lv_has ls 5 [(0, .ref (oA z i)), (1, .int (nI M)), (2, .long rs), (4, .int (nI q - 1))] → W p l e ({ frames := 0, cells := 0, slots := 0, locals := 0 } : Room) s m ([.ref (oA z i), .int (nI M)] : List Value).toArray below meth c H locs 0 0 (MQ below (va_Ql (fun r g2 => g2 = g ∧ r.toInt = bz (g.2.2.2 i) % (M : Int)) (zO z sz) (zA z sz)) ([.ref (oA z i), .int (nI M)] : List Value).toArray s 0 0 (zA z sz)) (F0 m 10 ls []) := by
    intro q
    induction q with
    | zero =>
      intro rs H locs ls hq hI hU hl
      have hI : uN rs = bv (g.2.2.2 i) % M := by rw [hI, hbv, Nat.pow_zero, Nat.div_one]
      have hlt : uN rs < M := by rw [hI]; exact Nat.mod_lt _ hM0
      have t0 := uN_int rs
      rw [if_pos (by omega)] at t0
      refine lv_iload hx hb d_B_modulo_10 (lv_at hl 3 rfl) ?_
      refine lv_if_lt (tgt := 42) hx hb d_B_modulo_12 (by decide) (fun c12 => ?_) (fun c12 => ?_)
      · refine lv_aload_n hx hb d_B_modulo_42 rfl (lv_at hl 0 rfl) ?_
        refine va_get (D := z.1) (ci := 2) (v := .int ((g.2.2.2 i).2.1)) (C := R_B) (T := F_B) (N := 3) hx hb hts in_B hown hU.2.1 hU.1 (2 + 2 * i) (uw_o z g hi) rfl 2 (by decide) (hts _ k_B_15) (fun _ h9 => h9) rfl d_B_modulo_43 ?_
        refine lv_topi (fun x43 ex43 => ?_)
        refine lv_if_eq (tgt := 62) hx hb d_B_modulo_46 (by decide) (fun c46 => ?_) (fun c46 => ?_)
        · have h46 : (g.2.2.2 i).2.1 = 0 := by rw [← ex43]; exact c46
          refine lv_lload_n hx hb d_B_modulo_62 rfl (lv_at hl 2 rfl) ?_
          exact z_lret hx hb hr hlocks hsz hU ⟨rfl, by rw [t0, hI, bz, if_pos h46]; rfl⟩ d_B_modulo_63
        · have h46 : ¬ (g.2.2.2 i).2.1 = 0 := by rw [← ex43]; exact c46
          refine lv_lload_n hx hb d_B_modulo_49 rfl (lv_at hl 2 rfl) ?_
          refine lv_lconst (v := 0) hx hb d_B_modulo_50 (by decide) ?_
          refine W.lcmp hx hb d_B_modulo_51 ?_
          refine lv_if_le (tgt := 62) hx hb d_B_modulo_52 (by decide) (fun c52 => ?_) (fun c52 => ?_)
          · have h52 : uN rs = 0 := by
              have q : rs ≤ 0 := (lg_cmp_le _ _).mp c52
              rw [Int64.le_iff_toInt_le, Int64.toInt_zero] at q
              omega
            refine lv_lload_n hx hb d_B_modulo_62 rfl (lv_at hl 2 rfl) ?_
            exact z_lret hx hb hr hlocks hsz hU ⟨rfl, by rw [t0, h52, bz, if_neg h46]; exact (neg_mod0 (by omega)).symm⟩ d_B_modulo_63
          · have h52 : 0 < uN rs := by
              have q : ¬ rs ≤ 0 := fun q => c52 ((lg_cmp_le _ _).mpr q)
              rw [Int64.le_iff_toInt_le, Int64.toInt_zero] at q
              omega
            refine lv_iload_n hx hb d_B_modulo_55 rfl (lv_at hl 1 rfl) ?_
            refine lv_i2l hx hb d_B_modulo_56 rfl ?_
            refine lv_topl (fun x56 ex56 => ?_)
            refine lv_lload_n hx hb d_B_modulo_57 rfl (lv_at hl 2 rfl) ?_
            refine lv_lsub hx hb d_B_modulo_58 ?_
            refine lv_topl (fun x58 ex58 => ?_)
            refine lv_goto (tgt := 63) hx hb d_B_modulo_59 (by decide) ?_
            have t56 : x56.toInt = (M : Int) := by rw [ex56, Jvm.Kit.i64_of_i32, nI_toInt hM]
            have t58 : x58.toInt = (M : Int) - (uN rs : Int) := by rw [ex58, Jvm.Kit.i64_sub] <;> omega
            exact z_lret hx hb hr hlocks hsz hU ⟨rfl, by rw [t58, hI, bz, if_neg h46]; exact (neg_mod1 hM0 (by omega)).symm⟩ d_B_modulo_63
      · exact absurd (by decide) c12
    | succ q ih =>
      intro rs H locs ls hq hI hU hl
      rw [nI_pred] at hl
      have hlt : uN rs < M := by rw [hI]; exact Nat.mod_lt _ hM0
      refine lv_iload hx hb d_B_modulo_10 (lv_at hl 3 rfl) ?_
      refine lv_if_lt (tgt := 42) hx hb d_B_modulo_12 (by decide) (fun c12 => ?_) (fun c12 => ?_)
      · exact absurd c12 (nI_pos (by omega))
      · have hin25 : vp_in (nI q) 512 := vp_in_nI (by omega) (by decide)
        refine lv_lload_n hx hb d_B_modulo_15 rfl (lv_at hl 2 rfl) ?_
        refine lv_bipush (v := 32) hx hb d_B_modulo_16 (by decide) ?_
        refine lv_lshl hx hb d_B_modulo_18 rfl ?_
        refine lv_topl (fun x18 ex18 => ?_)
        refine lv_aload_n hx hb d_B_modulo_19 rfl (lv_at hl 0 rfl) ?_
        refine va_get (D := z.1) (ci := 2) (v := .ref (rA z i)) (C := R_B) (T := F_B) (N := 3) hx hb hts in_B hown hU.2.1 hU.1 (2 + 2 * i) (uw_o z g hi) rfl 0 (by decide) (hts _ k_B_9) (fun _ h9 => h9) rfl d_B_modulo_20 ?_
        refine lv_iload hx hb d_B_modulo_23 (lv_at hl 3 rfl) ?_
        refine va_iald hx hb hU.2.1 hU.1 (3 + 2 * i) i (uw_w z g hi) (zty_a z hi) hin25 d_B_modulo_25 ?_
        refine lv_topi (fun x25 ex25 => ?_)
        refine lv_i2l hx hb d_B_modulo_26 rfl ?_
        refine lv_topl (fun x26 ex26 => ?_)
        refine lv_ldc2 (v := 4294967295) hx hb hown (hts _ k_B_39) d_B_modulo_27 ?_
        refine lv_land hx hb d_B_modulo_30 ?_
        refine lv_topl (fun x30 ex30 => ?_)
        refine lv_lor hx hb d_B_modulo_31 ?_
        refine lv_topl (fun x31 ex31 => ?_)
        refine lv_iload_n hx hb d_B_modulo_32 rfl (lv_at hl 1 rfl) ?_
        refine lv_i2l hx hb d_B_modulo_33 rfl ?_
        refine lv_topl (fun x33 ex33 => ?_)
        have t33 : x33.toInt = (M : Int) := by rw [ex33, Jvm.Kit.i64_of_i32, nI_toInt hM]
        have hne34 : ¬ x33 = 0 := fun q => by rw [q, Int64.toInt_zero] at t33; omega
        refine lv_lrem hx hb d_B_modulo_34 hne34 ?_
        refine lv_topl (fun x34 ex34 => ?_)
        refine lv_lstore_n (lv' := [(2, .long x34), (0, .ref (oA z i)), (1, .int (nI M)), (4, .int (nI q))]) hx hb d_B_modulo_35 rfl hl (by decide) rfl (fun ls hl => ?_)
        obtain ⟨x36, ex36⟩ : ∃ y : Int32, y = (nI q) + Int32.ofInt (-1) := ⟨_, rfl⟩
        refine lv_iinc (v := x36) (lv' := [(4, .int x36), (2, .long x34), (0, .ref (oA z i)), (1, .int (nI M))]) hx hb d_B_modulo_36 hl (k := 3) rfl (by rw [ex36]) (by decide) rfl (fun ls hl => ?_)
        refine lv_goto (tgt := 10) hx hb d_B_modulo_39 (by decide) ?_
        have a1 : x25 = F q := by rw [ex25, nI_clamp (by omega), eF]
        have u30 : uN x30 = wn (F q) := by rw [ex30, ex26, a1]; exact uN_w _
        have w1 := wn_lt (F q)
        have u31 : uN x31 = uN rs * 4294967296 + wn (F q) := by rw [ex31, ex18]; exact uN_shlor (by omega) u30 w1
        have t31 := uN_int x31
        rw [if_pos (by omega)] at t31
        have t34 : x34.toInt = x31.toInt % (M : Int) := by rw [ex34, Jvm.Kit.i64_rem_nonneg (by omega), t33]
        have u34 : uN x34 = (uN rs * 4294967296 + wn (F q)) % M := by
          have h1 := uN_of_nonneg (x := x34) (by rw [t34]; exact Int.emod_nonneg _ (by omega))
          rw [t34, t31, u31] at h1
          exact Int.ofNat.inj (by rw [Int.ofNat_eq_natCast, h1]; rfl)
        rw [ex36, show Int32.ofInt (-1) = -1 from rfl, ← Int32.sub_eq_add_neg] at hl
        exact ih x34 _ _ ls (by omega) (by rw [u34, hI]; exact div_word F (by omega)) hU (lv_sub hl [2, 3, 1, 0] rfl)
  refine lv_lconst (v := 0) hx hb d_B_modulo_0 (by decide) ?_
  refine lv_lstore_n (lv' := [(2, .long 0), (0, .ref (oA z i)), (1, .int (nI M))]) hx hb d_B_modulo_1 rfl hl (by decide) rfl (fun ls hl => ?_)
  refine lv_aload_n hx hb d_B_modulo_2 rfl (lv_at hl 1 rfl) ?_
  refine va_get (D := z.1) (ci := 2) (v := .int ((g.2.2.2 i).1)) (C := R_B) (T := F_B) (N := 3) hx hb hts in_B hown hU.2.1 hU.1 (2 + 2 * i) (uw_o z g hi) rfl 1 (by decide) (hts _ k_B_23) (fun _ h9 => h9) rfl d_B_modulo_3 ?_
  refine lv_topi (fun x3 ex3 => ?_)
  refine lv_iconst (v := 1) hx hb d_B_modulo_6 (by decide) ?_
  refine lv_isub hx hb d_B_modulo_7 ?_
  refine lv_topi (fun x7 ex7 => ?_)
  refine lv_istore (lv' := [(4, .int x7), (2, .long 0), (0, .ref (oA z i)), (1, .int (nI M))]) hx hb d_B_modulo_8 hl (by decide) rfl (fun ls hl => ?_)
  rw [ex7, ex3, hn1] at hl
  exact K n 0 _ _ ls (Nat.le_refl n) (by rw [vl_hi (Nat.le_refl n), Nat.zero_mod]; rfl) hU (lv_sub hl [2, 3, 1, 0] rfl)
end
section
/-! UnitFinder$Recurrence -/
def recL (g : St) : Nat := (uN (g.2.2.1 0) * bv (g.2.2.2 8) + uN (g.2.2.1 1) * bv (g.2.2.2 9)) % MM
def recB (g : St) : Nat := (uN (g.2.2.1 2) * bv (g.2.2.2 8) + uN (g.2.2.1 3) * bv (g.2.2.2 9)) % MM
def kOk (g : St) : Prop := uN (g.2.2.1 0) < 1073741824 ∧ uN (g.2.2.1 1) < 1073741824 ∧ uN (g.2.2.1 2) < 1073741824 ∧ uN (g.2.2.1 3) < 1073741824
def rOk (g : St) : Prop := bOk (g.2.2.2 8) ∧ bOk (g.2.2.2 9) ∧ (g.2.2.2 8).2.1 = 0 ∧ (g.2.2.2 9).2.1 = 0 ∧ kOk g
/-- nothing has changed but the recurrence -/
def sU (g g2 : St) : Prop := g2.1 = g.1 ∧ g2.2.1 = g.2.1 ∧ ∀ j, j ≠ 8 → j ≠ 9 → g2.2.2.2 j = g.2.2.2 j
theorem sU.rf (g : St) : sU g g := ⟨rfl, rfl, fun _ _ _ => rfl⟩
theorem sU.tr {a b c : St} (h : sU a b) (k : sU b c) : sU a c := ⟨k.1.trans h.1, k.2.1.trans h.2.1, fun j h8 h9 => (k.2.2 j h8 h9).trans (h.2.2 j h8 h9)⟩
def gn (g : St) : St := sK (sK (sK (sK g 0 1) 1 0) 2 0) 3 1
theorem sU_gn (g : St) : sU g (gn g) := ⟨rfl, rfl, fun _ _ _ => rfl⟩
theorem sU_8 (g : St) (b : BS) : sU g (sG g 8 b) := ⟨rfl, rfl, fun _ h _ => sG_n g b h⟩
theorem sU_9 (g : St) (b : BS) : sU g (sG g 9 b) := ⟨rfl, rfl, fun _ _ h => sG_n g b h⟩
theorem sU_K (g : St) (k : Nat) (v : Int64) : sU g (sK g k v) := ⟨rfl, rfl, fun _ _ _ => rfl⟩
theorem gn_k (g : St) : kOk (gn g) := ⟨show uN 1 < 1073741824 by decide, show uN 0 < 1073741824 by decide, show uN 0 < 1073741824 by decide, show uN 1 < 1073741824 by decide⟩
theorem gn_L (g : St) : recL (gn g) = bv (g.2.2.2 8) % MM := by
  show (1 * bv (g.2.2.2 8) + 0 * bv (g.2.2.2 9)) % MM = _
  rw [Nat.one_mul, Nat.zero_mul, Nat.add_zero]
theorem gn_B (g : St) : recB (gn g) = bv (g.2.2.2 9) % MM := by
  show (0 * bv (g.2.2.2 8) + 1 * bv (g.2.2.2 9)) % MM = _
  rw [Nat.one_mul, Nat.zero_mul, Nat.zero_add]
theorem bv_lt {b : BS} (h : bOk b) : bv b < MM := by
  obtain ⟨n, hn, hn1, -, -⟩ := h
  rw [bv_of hn hn1]
  exact vl_ltM _ hn
set_option maxHeartbeats 4000000 in
set_option maxRecDepth 100000 in
theorem c_gather (l : Launch) (z : ZZ) (sz : Nat) (g : St)  : Met l y_K_gatherNothing (zw y_K_gatherNothing b_K_gatherNothing 1 none) { frames := 0, cells := 0, slots := 0, locals := 0 } (va_Pc [.ref (kA z)] (zI z g sz)) (va_Qv (fun g2 => g2 = gn g) (zO z sz) (zA z sz)) 0 0 (zA z sz) := by
  refine z_ofW (by decide) (Nat.le_of_ble_eq_true rfl) (fun p e s m below meth c hx hb hr hml hown hts hlocks hname hsz hN ls hU hl => ?_)
  have hl : lv_has ls 1 [(0, .ref (kA z))] := hl
  refine lv_aload_n hx hb d_K_gatherNothing_0 rfl (lv_at hl 0 rfl) ?_
  refine lv_lconst (v := 1) hx hb d_K_gatherNothing_1 (by decide) ?_
  refine zp_K0 hx hb hts hown hU (hts _ k_K_28) d_K_gatherNothing_2 (fun H locs hU => ?_)
  generalize eg2 : sK g 0 1 = g2 at hU
  refine lv_aload_n hx hb d_K_gatherNothing_5 rfl (lv_at hl 0 rfl) ?_
  refine lv_lconst (v := 0) hx hb d_K_gatherNothing_6 (by decide) ?_
  refine zp_K1 hx hb hts hown hU (hts _ k_K_37) d_K_gatherNothing_7 (fun H locs hU => ?_)
  generalize eg7 : sK g2 1 0 = g7 at hU
  refine lv_aload_n hx hb d_K_gatherNothing_10 rfl (lv_at hl 0 rfl) ?_
  refine lv_lconst (v := 0) hx hb d_K_gatherNothing_11 (by decide) ?_
  refine zp_K2 hx hb hts hown hU (hts _ k_K_32) d_K_gatherNothing_12 (fun H locs hU => ?_)
  generalize eg12 : sK g7 2 0 = g12 at hU
  refine lv_aload_n hx hb d_K_gatherNothing_15 rfl (lv_at hl 0 rfl) ?_
  refine lv_lconst (v := 1) hx hb d_K_gatherNothing_16 (by decide) ?_
  refine zp_K3 hx hb hts hown hU (hts _ k_K_40) d_K_gatherNothing_17 (fun H locs hU => ?_)
  generalize eg17 : sK g12 3 1 = g17 at hU
  exact z_vret hx hb hr hlocks hsz hU (by rw [← eg17, ← eg12, ← eg7, ← eg2]; rfl) d_K_gatherNothing_20
set_option maxHeartbeats 4000000 in
set_option maxRecDepth 100000 in
theorem c_start (l : Launch) (z : ZZ) (sz : Nat) (g : St)  : Met l y_K_start (zw y_K_start b_K_start 1 none) { frames := 2, cells := 0, slots := 0, locals := 44 } (va_Pc [.ref (kA z)] (zI z g sz)) (va_Qv (fun g2 => sU g g2 ∧ rOk g2 ∧ recL g2 = 1 ∧ recB g2 = 0) (zO z sz) (zA z sz)) 0 0 (zA z sz) := by
  refine z_ofW (by decide) (Nat.le_of_ble_eq_true rfl) (fun p e s m below meth c hx hb hr hml hown hts hlocks hname hsz hN ls hU hl => ?_)
  have hl : lv_has ls 1 [(0, .ref (kA z))] := hl
  refine lv_aload_n hx hb d_K_start_0 rfl (lv_at hl 0 rfl) ?_
  refine va_get (D := z.1) (ci := 1) (v := .ref (oA z 8)) (C := R_K) (T := F_K) (N := 6) hx hb hts in_K hown hU.2.1 hU.1 1 rfl rfl 0 (by decide) (hts _ k_K_12) (fun _ h9 => h9) rfl d_K_start_1 ?_
  refine lv_iconst (v := 1) hx hb d_K_start_4 (by decide) ?_
  refine z_callv (z_run (As := [.int 1]) (rest := []) hx hb hml hown hts hU hN (c_set l z _ g (i := 8) (by decide) (v := 1) (by decide)) (w_B_set_cw hts k_K_21 rfl rfl ⟨Nat.le_of_ble_eq_true rfl, Nat.le_of_ble_eq_true rfl⟩) (z_recvB hU (by decide)) rfl hl.1 rfl (lv_room (Nat.le_of_ble_eq_true rfl)) d_K_start_5 ⟨Nat.zero_le _, Nat.zero_le _⟩) hU (fun g5 H locs hp hU => ?_)
  obtain ⟨b8, rfl, h81, h82, h83⟩ := hp
  refine lv_aload_n hx hb d_K_start_8 rfl (lv_at hl 0 rfl) ?_
  refine va_get (D := z.1) (ci := 1) (v := .ref (oA z 9)) (C := R_K) (T := F_K) (N := 6) hx hb hts in_K hown hU.2.1 hU.1 1 rfl rfl 1 (by decide) (hts _ k_K_18) (fun _ h9 => h9) rfl d_K_start_9 ?_
  refine lv_iconst (v := 0) hx hb d_K_start_12 (by decide) ?_
  refine z_callv (z_run (As := [.int 0]) (rest := []) hx hb hml hown hts hU hN (c_set l z _ (sG g 8 b8) (i := 9) (by decide) (v := 0) (by decide)) (w_B_set_cw hts k_K_21 rfl rfl ⟨Nat.le_of_ble_eq_true rfl, Nat.le_of_ble_eq_true rfl⟩) (z_recvB hU (by decide)) rfl hl.1 rfl (lv_room (Nat.le_of_ble_eq_true rfl)) d_K_start_13 ⟨Nat.zero_le _, Nat.zero_le _⟩) hU (fun g13 H locs hp hU => ?_)
  obtain ⟨b9, rfl, h91, h92, h93⟩ := hp
  refine lv_aload_n hx hb d_K_start_16 rfl (lv_at hl 0 rfl) ?_
  refine z_callv (z_run (As := []) (rest := []) hx hb hml hown hts hU hN (c_gather l z _ (sG (sG g 8 b8) 9 b9)) (w_K_gatherNothing_cw hts k_K_25 rfl rfl ⟨Nat.le_of_ble_eq_true rfl, Nat.le_of_ble_eq_true rfl⟩) (z_recvK hU) rfl hl.1 rfl (lv_room (Nat.le_of_ble_eq_true rfl)) d_K_start_17 ⟨Nat.zero_le _, Nat.zero_le _⟩) hU (fun g17 H locs hp hU => ?_)
  subst hp
  have e8 : (gn (sG (sG g 8 b8) 9 b9)).2.2.2 8 = b8 := rfl
  have e9 : (gn (sG (sG g 8 b8) 9 b9)).2.2.2 9 = b9 := rfl
  exact z_vret hx hb hr hlocks hsz hU ⟨((sU_8 g b8).tr (sU_9 _ b9)).tr (sU_gn _), ⟨h81, h91, h82, h92, gn_k _⟩, by
    rw [gn_L]
    show bv b8 % MM = 1
    rw [h83, Nat.mod_eq_of_lt]
    exact Nat.lt_of_lt_of_le (by decide) (MM_le (n := 1) (by decide)), by
    rw [gn_B]
    show bv b9 % MM = 0
    rw [h93, Nat.zero_mod]⟩ d_K_start_20
set_option maxHeartbeats 4000000 in
set_option maxRecDepth 100000 in
theorem c_settle (l : Launch) (z : ZZ) (sz : Nat) (g : St) (hok : rOk g) : Met l y_K_settle (zw y_K_settle b_K_settle 11 none) { frames := 1, cells := 0, slots := 0, locals := 23 } (va_Pc [.ref (kA z)] (zI z g sz)) (va_Qv (fun g2 => sU g g2 ∧ rOk g2 ∧ g2.2.2.1 = (gn g).2.2.1 ∧ bv (g2.2.2.2 8) = recL g ∧ bv (g2.2.2.2 9) = recB g) (zO z sz) (zA z sz)) 0 0 (zA z sz) := by
  refine z_ofW (by decide) (Nat.le_of_ble_eq_true rfl) (fun p e s m below meth c hx hb hr hml hown hts hlocks hname hsz hN ls hU hl => ?_)
  have hl : lv_has ls 11 [(0, .ref (kA z))] := hl
  obtain ⟨⟨n, hn, hn1, hbel, htop⟩, ⟨r, hr0, hr1, hrbel, hrtop⟩, hb8, hb9, hk0, hk1, hk2, hk3⟩ := hok
  have hbv : bv (g.2.2.2 8) = vl (g.2.2.2 8).2.2 n := bv_of hn hn1
  have hbr : bv (g.2.2.2 9) = vl (g.2.2.2 9).2.2 r := bv_of hr0 hr1
  generalize eF : (g.2.2.2 8).2.2 = F at hbv htop
  generalize eG : (g.2.2.2 9).2.2 = G at hbr hrtop
  obtain ⟨M, eM⟩ : ∃ y, y = max n r := ⟨_, rfl⟩
  have hM : M ≤ 512 := by omega
  obtain ⟨p0, ep0⟩ : ∃ y, y = uN (g.2.2.1 0) := ⟨_, rfl⟩
  obtain ⟨p1, ep1⟩ : ∃ y, y = uN (g.2.2.1 1) := ⟨_, rfl⟩
  obtain ⟨p2, ep2⟩ : ∃ y, y = uN (g.2.2.1 2) := ⟨_, rfl⟩
  obtain ⟨p3, ep3⟩ : ∃ y, y = uN (g.2.2.1 3) := ⟨_, rfl⟩
  rw [← ep0] at hk0; rw [← ep1] at hk1; rw [← ep2] at hk2; rw [← ep3] at hk3
  have K : ∀ (d k : Nat) (f h : Nat → Int32) (c1 c2 : Int64) (H : Heap) (locs : List Loc) (ls : Array Slot), k + d = M → vl f k + uN c1 * 4294967296 ^ k = p0 * vl (wd F n) k + p1 * vl (wd G r) k → vl h k + uN c2 * 4294967296 ^ k = p2 * vl (wd F n) k + p3 * vl (wd G r) k → uN c1 < 4294967296 → uN c2 < 4294967296 → (∀ q, k ≤ q → f q = F q) → (∀ q, k ≤ q → h q = G q) → Ws z (sW (sW g 8 f) 9 h) s.heap H locs s → lv_has ls 11 [(0, .ref (kA z)), (1, .int (nI M)), (2, .long c1), (4, .long c2), (6, .int (nI k))] → W p l e ({ frames := 1, cells := 0, slots := 0, locals := 23 } : Room) s m ([.ref (kA z)] : List Value).toArray below meth c H locs 0 0 (MQ below (va_Qv (fun g2 => sU g g2 ∧ rOk g2 ∧ g2.2.2.1 = (gn g).2.2.1 ∧ bv (g2.2.2.2 8) = recL g ∧ bv (g2.2.2.2 9) = recB g) (zO z sz) (zA z sz)) ([.ref (kA z)] : List Value).toArray s 0 0 (zA z sz)) (F0 m 26 ls []) := by
    intro d
    induction d with
    | zero =>
      intro k f h c1 c2 H locs ls hk hI hJ hc1 hc2 hf hh hU hl
      have hk : k = M := by omega
      subst hk
      refine lv_iload hx hb d_K_settle_26 (lv_at hl 4 rfl) ?_
      refine lv_iload_n hx hb d_K_settle_28 rfl (lv_at hl 1 rfl) ?_
      refine lv_icmp_ge (tgt := 145) hx hb d_K_settle_29 (by decide) (fun c29 => ?_) (fun c29 => ?_)
      · refine lv_aload_n hx hb d_K_settle_145 rfl (lv_at hl 0 rfl) ?_
        refine va_get (D := z.1) (ci := 1) (v := .ref (oA z 8)) (C := R_K) (T := F_K) (N := 6) hx hb hts in_K hown hU.2.1 hU.1 1 rfl rfl 0 (by decide) (hts _ k_K_12) (fun _ h9 => h9) rfl d_K_settle_146 ?_
        refine lv_iload_n hx hb d_K_settle_149 rfl (lv_at hl 1 rfl) ?_
        refine lv_lload_n hx hb d_K_settle_150 rfl (lv_at hl 2 rfl) ?_
        have e8 : ((sW (sW g 8 f) 9 h).2.2.2 8) = ((g.2.2.2 8).1, (g.2.2.2 8).2.1, f) := by rw [sW_n _ _ (by decide), sW_s]
        refine z_callv (z_run (As := [.int (nI k), .long c1]) (rest := []) hx hb hml hown hts hU hN (c_close l z _ (sW (sW g 8 f) 9 h) (i := 8) (by decide) (by rw [e8]; exact hbel) hM c1) (w_B_close_cw hts k_K_68 rfl rfl ⟨Nat.le_of_ble_eq_true rfl, Nat.le_of_ble_eq_true rfl⟩) (z_recvB hU (by decide)) rfl hl.1 rfl (lv_room (Nat.le_of_ble_eq_true rfl)) d_K_settle_151 ⟨Nat.zero_le _, Nat.zero_le _⟩) hU (fun g151 H locs hp hU => ?_)
        obtain ⟨b8, rfl, h81, h82, h83⟩ := hp
        rw [e8] at h82 h83
        refine lv_aload_n hx hb d_K_settle_154 rfl (lv_at hl 0 rfl) ?_
        refine va_get (D := z.1) (ci := 1) (v := .ref (oA z 9)) (C := R_K) (T := F_K) (N := 6) hx hb hts in_K hown hU.2.1 hU.1 1 rfl rfl 1 (by decide) (hts _ k_K_18) (fun _ h9 => h9) rfl d_K_settle_155 ?_
        refine lv_iload_n hx hb d_K_settle_158 rfl (lv_at hl 1 rfl) ?_
        refine lv_lload hx hb d_K_settle_159 (lv_at hl 3 rfl) ?_
        have e9 : ((sG (sW (sW g 8 f) 9 h) 8 b8).2.2.2 9) = ((g.2.2.2 9).1, (g.2.2.2 9).2.1, h) := by rw [sG_n _ _ (by decide), sW_s, sW_n _ _ (by decide)]
        refine z_callv (z_run (As := [.int (nI k), .long c2]) (rest := []) hx hb hml hown hts hU hN (c_close l z _ (sG (sW (sW g 8 f) 9 h) 8 b8) (i := 9) (by decide) (by rw [e9]; exact hrbel) hM c2) (w_B_close_cw hts k_K_68 rfl rfl ⟨Nat.le_of_ble_eq_true rfl, Nat.le_of_ble_eq_true rfl⟩) (z_recvB hU (by decide)) rfl hl.1 rfl (lv_room (Nat.le_of_ble_eq_true rfl)) d_K_settle_161 ⟨Nat.zero_le _, Nat.zero_le _⟩) hU (fun g161 H locs hp hU => ?_)
        obtain ⟨b9, rfl, h91, h92, h93⟩ := hp
        rw [e9] at h92 h93
        refine lv_aload_n hx hb d_K_settle_164 rfl (lv_at hl 0 rfl) ?_
        refine z_callv (z_run (As := []) (rest := []) hx hb hml hown hts hU hN (c_gather l z _ (sG (sG (sW (sW g 8 f) 9 h) 8 b8) 9 b9)) (w_K_gatherNothing_cw hts k_K_25 rfl rfl ⟨Nat.le_of_ble_eq_true rfl, Nat.le_of_ble_eq_true rfl⟩) (z_recvK hU) rfl hl.1 rfl (lv_room (Nat.le_of_ble_eq_true rfl)) d_K_settle_165 ⟨Nat.zero_le _, Nat.zero_le _⟩) hU (fun g165 H locs hp hU => ?_)
        subst hp
        have q8 : (gn (sG (sG (sW (sW g 8 f) 9 h) 8 b8) 9 b9)).2.2.2 8 = b8 := rfl
        have q9 : (gn (sG (sG (sW (sW g 8 f) 9 h) 8 b8) 9 b9)).2.2.2 9 = b9 := rfl
        rw [vl_wd (by omega), vl_wd (by omega)] at hI hJ
        exact z_vret hx hb hr hlocks hsz hU ⟨((((sU_8 g _).tr (sU_9 _ _)).tr (sU_8 _ b8)).tr (sU_9 _ b9)).tr (sU_gn _), ⟨h81, h91, h82.trans hb8, h92.trans hb9, gn_k _⟩, by
          funext t
          unfold gn sK
          dsimp only
          split
          · rfl
          split
          · rfl
          split
          · rfl
          split <;> rfl, by
          rw [q8, h83, Nat.mod_eq_of_lt hc1, recL, ← ep0, ← ep1, hbv, hbr]
          exact congrArg (· % MM) hI, by
          rw [q9, h93, Nat.mod_eq_of_lt hc2, recB, ← ep2, ← ep3, hbv, hbr]
          exact congrArg (· % MM) hJ⟩ d_K_settle_168
      · exact absurd (Int32.le_refl _) c29
    | succ d ih =>
      intro k f h c1 c2 H locs ls hk hI hJ hc1 hc2 hf hh hU hl
      have e8 : ((sW (sW g 8 f) 9 h).2.2.2 8) = ((g.2.2.2 8).1, (g.2.2.2 8).2.1, f) := by rw [sW_n _ _ (by decide), sW_s]
      have e9 : ((sW (sW g 8 f) 9 h).2.2.2 9) = ((g.2.2.2 9).1, (g.2.2.2 9).2.1, h) := by rw [sW_s, sW_n _ _ (by decide)]
      refine lv_iload hx hb d_K_settle_26 (lv_at hl 4 rfl) ?_
      refine lv_iload_n hx hb d_K_settle_28 rfl (lv_at hl 1 rfl) ?_
      refine lv_icmp_ge (tgt := 145) hx hb d_K_settle_29 (by decide) (fun c29 => ?_) (fun c29 => ?_)
      · exact absurd c29 (nI_ge (by omega) (by omega))
      · refine lv_aload_n hx hb d_K_settle_32 rfl (lv_at hl 0 rfl) ?_
        refine va_get (D := z.1) (ci := 1) (v := .ref (oA z 8)) (C := R_K) (T := F_K) (N := 6) hx hb hts in_K hown hU.2.1 hU.1 1 rfl rfl 0 (by decide) (hts _ k_K_12) (fun _ h9 => h9) rfl d_K_settle_33 ?_
        refine lv_iload hx hb d_K_settle_36 (lv_at hl 4 rfl) ?_
        refine z_calli (z_run (As := [.int (nI k)]) (rest := []) hx hb hml hown hts hU hN (c_wordAt l z _ (sW (sW g 8 f) 9 h) (i := 8) (by decide) hn (by rw [e8]; exact hn1) (K := k) (by omega)) (w_B_wordAt_cw hts k_K_58 rfl rfl ⟨Nat.le_of_ble_eq_true rfl, Nat.le_of_ble_eq_true rfl⟩) (z_recvB hU (by decide)) rfl hl.1 rfl (lv_room (Nat.le_of_ble_eq_true rfl)) d_K_settle_38 ⟨Nat.zero_le _, Nat.zero_le _⟩) hU (fun r38 g38 H locs hp38 hU => ?_)
        obtain ⟨rfl, q38⟩ := hp38
        refine lv_i2l hx hb d_K_settle_41 rfl ?_
        refine lv_topl (fun x41 ex41 => ?_)
        refine lv_ldc2 (v := 4294967295) hx hb hown (hts _ k_K_62) d_K_settle_42 ?_
        refine lv_land hx hb d_K_settle_45 ?_
        refine lv_topl (fun x45 ex45 => ?_)
        refine lv_lstore (lv' := [(7, .long x45), (0, .ref (kA z)), (1, .int (nI M)), (2, .long c1), (4, .long c2), (6, .int (nI k))]) hx hb d_K_settle_46 hl (by decide) rfl (fun ls hl => ?_)
        refine lv_aload_n hx hb d_K_settle_48 rfl (lv_at hl 1 rfl) ?_
        refine va_get (D := z.1) (ci := 1) (v := .ref (oA z 9)) (C := R_K) (T := F_K) (N := 6) hx hb hts in_K hown hU.2.1 hU.1 1 rfl rfl 1 (by decide) (hts _ k_K_18) (fun _ h9 => h9) rfl d_K_settle_49 ?_
        refine lv_iload hx hb d_K_settle_52 (lv_at hl 5 rfl) ?_
        refine z_calli (z_run (As := [.int (nI k)]) (rest := []) hx hb hml hown hts hU hN (c_wordAt l z _ (sW (sW g 8 f) 9 h) (i := 9) (by decide) hr0 (by rw [e9]; exact hr1) (K := k) (by omega)) (w_B_wordAt_cw hts k_K_58 rfl rfl ⟨Nat.le_of_ble_eq_true rfl, Nat.le_of_ble_eq_true rfl⟩) (z_recvB hU (by decide)) rfl hl.1 rfl (lv_room (Nat.le_of_ble_eq_true rfl)) d_K_settle_54 ⟨Nat.zero_le _, Nat.zero_le _⟩) hU (fun r54 g54 H locs hp54 hU => ?_)
        obtain ⟨rfl, q54⟩ := hp54
        have hin113 : vp_in (nI k) 512 := vp_in_nI (by omega) (by decide)
        have hin126 := hin113
        refine lv_i2l hx hb d_K_settle_57 rfl ?_
        refine lv_topl (fun x57 ex57 => ?_)
        refine lv_ldc2 (v := 4294967295) hx hb hown (hts _ k_K_62) d_K_settle_58 ?_
        refine lv_land hx hb d_K_settle_61 ?_
        refine lv_topl (fun x61 ex61 => ?_)
        refine lv_lstore (lv' := [(9, .long x61), (7, .long x45), (0, .ref (kA z)), (1, .int (nI M)), (2, .long c1), (4, .long c2), (6, .int (nI k))]) hx hb d_K_settle_62 hl (by decide) rfl (fun ls hl => ?_)
        refine lv_lload_n hx hb d_K_settle_64 rfl (lv_at hl 4 rfl) ?_
        refine lv_aload_n hx hb d_K_settle_65 rfl (lv_at hl 2 rfl) ?_
        refine va_get (D := z.1) (ci := 1) (v := .long ((sW (sW g 8 f) 9 h).2.2.1 0)) (C := R_K) (T := F_K) (N := 6) hx hb hts in_K hown hU.2.1 hU.1 1 rfl rfl 2 (by decide) (hts _ k_K_28) (fun _ h9 => h9) rfl d_K_settle_66 ?_
        refine lv_topl (fun x66 ex66 => ?_)
        refine lv_lload hx hb d_K_settle_69 (lv_at hl 1 rfl) ?_
        refine lv_lmul hx hb d_K_settle_71 ?_
        refine lv_topl (fun x71 ex71 => ?_)
        refine lv_aload_n hx hb d_K_settle_72 rfl (lv_at hl 2 rfl) ?_
        refine va_get (D := z.1) (ci := 1) (v := .long ((sW (sW g 8 f) 9 h).2.2.1 1)) (C := R_K) (T := F_K) (N := 6) hx hb hts in_K hown hU.2.1 hU.1 1 rfl rfl 3 (by decide) (hts _ k_K_37) (fun _ h9 => h9) rfl d_K_settle_73 ?_
        refine lv_topl (fun x73 ex73 => ?_)
        refine lv_lload hx hb d_K_settle_76 (lv_at hl 0 rfl) ?_
        refine lv_lmul hx hb d_K_settle_78 ?_
        refine lv_topl (fun x78 ex78 => ?_)
        refine lv_ladd hx hb d_K_settle_79 ?_
        refine lv_topl (fun x79 ex79 => ?_)
        refine lv_ladd hx hb d_K_settle_80 ?_
        refine lv_topl (fun x80 ex80 => ?_)
        refine lv_lstore_n (lv' := [(2, .long x80), (9, .long x61), (7, .long x45), (0, .ref (kA z)), (1, .int (nI M)), (4, .long c2), (6, .int (nI k))]) hx hb d_K_settle_81 rfl hl (by decide) rfl (fun ls hl => ?_)
        refine lv_lload hx hb d_K_settle_82 (lv_at hl 5 rfl) ?_
        refine lv_aload_n hx hb d_K_settle_84 rfl (lv_at hl 3 rfl) ?_
        refine va_get (D := z.1) (ci := 1) (v := .long ((sW (sW g 8 f) 9 h).2.2.1 2)) (C := R_K) (T := F_K) (N := 6) hx hb hts in_K hown hU.2.1 hU.1 1 rfl rfl 4 (by decide) (hts _ k_K_32) (fun _ h9 => h9) rfl d_K_settle_85 ?_
        refine lv_topl (fun x85 ex85 => ?_)
        refine lv_lload hx hb d_K_settle_88 (lv_at hl 2 rfl) ?_
        refine lv_lmul hx hb d_K_settle_90 ?_
        refine lv_topl (fun x90 ex90 => ?_)
        refine lv_aload_n hx hb d_K_settle_91 rfl (lv_at hl 3 rfl) ?_
        refine va_get (D := z.1) (ci := 1) (v := .long ((sW (sW g 8 f) 9 h).2.2.1 3)) (C := R_K) (T := F_K) (N := 6) hx hb hts in_K hown hU.2.1 hU.1 1 rfl rfl 5 (by decide) (hts _ k_K_40) (fun _ h9 => h9) rfl d_K_settle_92 ?_
        refine lv_topl (fun x92 ex92 => ?_)
        refine lv_lload hx hb d_K_settle_95 (lv_at hl 1 rfl) ?_
        refine lv_lmul hx hb d_K_settle_97 ?_
        refine lv_topl (fun x97 ex97 => ?_)
        refine lv_ladd hx hb d_K_settle_98 ?_
        refine lv_topl (fun x98 ex98 => ?_)
        refine lv_ladd hx hb d_K_settle_99 ?_
        refine lv_topl (fun x99 ex99 => ?_)
        refine lv_lstore (lv' := [(4, .long x99), (2, .long x80), (9, .long x61), (7, .long x45), (0, .ref (kA z)), (1, .int (nI M)), (6, .int (nI k))]) hx hb d_K_settle_100 hl (by decide) rfl (fun ls hl => ?_)
        refine lv_aload_n hx hb d_K_settle_102 rfl (lv_at hl 4 rfl) ?_
        refine va_get (D := z.1) (ci := 1) (v := .ref (oA z 8)) (C := R_K) (T := F_K) (N := 6) hx hb hts in_K hown hU.2.1 hU.1 1 rfl rfl 0 (by decide) (hts _ k_K_12) (fun _ h9 => h9) rfl d_K_settle_103 ?_
        refine va_getN (D := z.1) (ci := 2) (v := .ref (rA z 8)) (C := R_B) (T := F_B) (N := 3) hx hb hts in_B hown hU.2.1 hU.1 (2 + 2 * 8) (uw_o z (sW (sW g 8 f) 9 h) (by decide)) rfl 0 (by decide) (va_Nw.use rfl hN.1) (fun _ h9 => h9) rfl d_K_settle_106 ?_
        refine lv_iload hx hb d_K_settle_109 (lv_at hl 6 rfl) ?_
        refine lv_lload_n hx hb d_K_settle_111 rfl (lv_at hl 1 rfl) ?_
        refine lv_l2i hx hb d_K_settle_112 rfl ?_
        refine lv_topi (fun x112 ex112 => ?_)
        refine z_iast hx hb hU (by decide) hin113 d_K_settle_113 (fun H locs hU => ?_)
        generalize eg113 : sW (sW (sW g 8 f) 9 h) 8 (upd ((sW (sW g 8 f) 9 h).2.2.2 8).2.2 (nI k).toNatClampNeg x112) = g113 at hU
        refine lv_aload_n hx hb d_K_settle_114 rfl (lv_at hl 4 rfl) ?_
        refine va_get (D := z.1) (ci := 1) (v := .ref (oA z 9)) (C := R_K) (T := F_K) (N := 6) hx hb hts in_K hown hU.2.1 hU.1 1 rfl rfl 1 (by decide) (hts _ k_K_18) (fun _ h9 => h9) rfl d_K_settle_115 ?_
        refine va_getN (D := z.1) (ci := 2) (v := .ref (rA z 9)) (C := R_B) (T := F_B) (N := 3) hx hb hts in_B hown hU.2.1 hU.1 (2 + 2 * 9) (uw_o z g113 (by decide)) rfl 0 (by decide) (va_Nw.use rfl hN.1) (fun _ h9 => h9) rfl d_K_settle_118 ?_
        refine lv_iload hx hb d_K_settle_121 (lv_at hl 6 rfl) ?_
        refine lv_lload hx hb d_K_settle_123 (lv_at hl 0 rfl) ?_
        refine lv_l2i hx hb d_K_settle_125 rfl ?_
        refine lv_topi (fun x125 ex125 => ?_)
        refine z_iast hx hb hU (by decide) hin126 d_K_settle_126 (fun H locs hU => ?_)
        generalize eg126 : sW g113 9 (upd (g113.2.2.2 9).2.2 (nI k).toNatClampNeg x125) = g126 at hU
        refine lv_lload_n hx hb d_K_settle_127 rfl (lv_at hl 1 rfl) ?_
        refine lv_bipush (v := 32) hx hb d_K_settle_128 (by decide) ?_
        refine lv_lushr hx hb d_K_settle_130 rfl ?_
        refine lv_topl (fun x130 ex130 => ?_)
        refine lv_lstore_n (lv' := [(2, .long x130), (4, .long x99), (9, .long x61), (7, .long x45), (0, .ref (kA z)), (1, .int (nI M)), (6, .int (nI k))]) hx hb d_K_settle_131 rfl hl (by decide) rfl (fun ls hl => ?_)
        refine lv_lload hx hb d_K_settle_132 (lv_at hl 1 rfl) ?_
        refine lv_bipush (v := 32) hx hb d_K_settle_134 (by decide) ?_
        refine lv_lushr hx hb d_K_settle_136 rfl ?_
        refine lv_topl (fun x136 ex136 => ?_)
        refine lv_lstore (lv' := [(4, .long x136), (2, .long x130), (9, .long x61), (7, .long x45), (0, .ref (kA z)), (1, .int (nI M)), (6, .int (nI k))]) hx hb d_K_settle_137 hl (by decide) rfl (fun ls hl => ?_)
        obtain ⟨x139, ex139⟩ : ∃ y : Int32, y = (nI k) + Int32.ofInt 1 := ⟨_, rfl⟩
        refine lv_iinc (v := x139) (lv' := [(6, .int x139), (4, .long x136), (2, .long x130), (9, .long x61), (7, .long x45), (0, .ref (kA z)), (1, .int (nI M))]) hx hb d_K_settle_139 hl (k := 6) rfl (by rw [ex139]) (by decide) rfl (fun ls hl => ?_)
        refine lv_goto (tgt := 26) hx hb d_K_settle_142 (by decide) ?_
        have a1 : r38 = wd F n k := by
          rw [q38, e8]
          show wd f n k = wd F n k
          unfold wd
          rw [hf k (Nat.le_refl k)]
        have a2 : r54 = wd G r k := by
          rw [q54, e9]
          show wd h r k = wd G r k
          unfold wd
          rw [hh k (Nat.le_refl k)]
        have u45 : uN x45 = wn (wd F n k) := by rw [ex45, ex41, a1]; exact uN_w _
        have u61 : uN x61 = wn (wd G r k) := by rw [ex61, ex57, a2]; exact uN_w _
        have w1 := wn_lt (wd F n k)
        have w2 := wn_lt (wd G r k)
        obtain ⟨a, ea⟩ : ∃ y, y = wn (wd F n k) := ⟨_, rfl⟩
        obtain ⟨b, eb⟩ : ∃ y, y = wn (wd G r k) := ⟨_, rfl⟩
        rw [← ea] at u45 w1
        rw [← eb] at u61 w2
        have v66 : uN x66 = p0 := by rw [ex66, ep0]; rfl
        have v73 : uN x73 = p1 := by rw [ex73, ep1]; rfl
        have v85 : uN x85 = p2 := by rw [ex85, ep2]; rfl
        have v92 : uN x92 = p3 := by rw [ex92, ep3]; rfl
        have b0 : p0 * a ≤ 1073741823 * 4294967295 := Nat.mul_le_mul (by omega) (by omega)
        have b1 : p1 * b ≤ 1073741823 * 4294967295 := Nat.mul_le_mul (by omega) (by omega)
        have b2 : p2 * a ≤ 1073741823 * 4294967295 := Nat.mul_le_mul (by omega) (by omega)
        have b3 : p3 * b ≤ 1073741823 * 4294967295 := Nat.mul_le_mul (by omega) (by omega)
        have u71 : uN x71 = p0 * a := by rw [ex71, uN_mul', v66, u45]; rw [v66, u45]; omega
        have u78 : uN x78 = p1 * b := by rw [ex78, uN_mul', v73, u61]; rw [v73, u61]; omega
        have u79 : uN x79 = p0 * a + p1 * b := by rw [ex79, uN_add', u71, u78]; rw [u71, u78]; omega
        have u80 : uN x80 = uN c1 + (p0 * a + p1 * b) := by rw [ex80, uN_add', u79]; rw [u79]; omega
        have u90 : uN x90 = p2 * a := by rw [ex90, uN_mul', v85, u45]; rw [v85, u45]; omega
        have u97 : uN x97 = p3 * b := by rw [ex97, uN_mul', v92, u61]; rw [v92, u61]; omega
        have u98 : uN x98 = p2 * a + p3 * b := by rw [ex98, uN_add', u90, u97]; rw [u90, u97]; omega
        have u99 : uN x99 = uN c2 + (p2 * a + p3 * b) := by rw [ex99, uN_add', u98]; rw [u98]; omega
        have u130 : uN x130 = uN x80 / 4294967296 := by rw [ex130]; exact uN_s32 _
        have u136 : uN x136 = uN x99 / 4294967296 := by rw [ex136]; exact uN_s32 _
        rw [← eg126, ← eg113, sW_8, sW_n _ _ (show (9 : Nat) ≠ 8 by decide), e8, e9, nI_clamp (by omega)] at hU
        rw [ex139, show Int32.ofInt 1 = 1 from rfl, nI_1] at hl
        exact ih (k + 1) _ _ x130 x136 _ _ ls (by omega) (by
          rw [vl_upds, ex112, wn_l2i, u130, Nat.pow_succ, vl_s, vl_s, ← ea, ← eb]
          exact vl_stepL (uN x80) hI u80) (by
          rw [vl_upds, ex125, wn_l2i, u136, Nat.pow_succ, vl_s, vl_s, ← ea, ← eb]
          exact vl_stepL (uN x99) hJ u99) (by rw [u130]; omega) (by rw [u136]; omega) (fun q hq => by rw [pk_un (by omega)]; exact hf q (by omega)) (fun q hq => by rw [pk_un (by omega)]; exact hh q (by omega)) hU (lv_sub hl [5, 6, 2, 1, 0] rfl)
  refine lv_aload_n hx hb d_K_settle_0 rfl (lv_at hl 0 rfl) ?_
  refine va_get (D := z.1) (ci := 1) (v := .ref (oA z 8)) (C := R_K) (T := F_K) (N := 6) hx hb hts in_K hown hU.2.1 hU.1 1 rfl rfl 0 (by decide) (hts _ k_K_12) (fun _ h9 => h9) rfl d_K_settle_1 ?_
  refine va_getN (D := z.1) (ci := 2) (v := .int ((g.2.2.2 8).1)) (C := R_B) (T := F_B) (N := 3) hx hb hts in_B hown hU.2.1 hU.1 (2 + 2 * 8) (uw_o z g (by decide)) rfl 1 (by decide) (va_Nw.use rfl hN.2.1) (fun _ h9 => h9) rfl d_K_settle_4 ?_
  refine lv_topi (fun x4 ex4 => ?_)
  refine lv_aload_n hx hb d_K_settle_7 rfl (lv_at hl 0 rfl) ?_
  refine va_get (D := z.1) (ci := 1) (v := .ref (oA z 9)) (C := R_K) (T := F_K) (N := 6) hx hb hts in_K hown hU.2.1 hU.1 1 rfl rfl 1 (by decide) (hts _ k_K_18) (fun _ h9 => h9) rfl d_K_settle_8 ?_
  refine va_getN (D := z.1) (ci := 2) (v := .int ((g.2.2.2 9).1)) (C := R_B) (T := F_B) (N := 3) hx hb hts in_B hown hU.2.1 hU.1 (2 + 2 * 9) (uw_o z g (by decide)) rfl 1 (by decide) (va_Nw.use rfl hN.2.1) (fun _ h9 => h9) rfl d_K_settle_11 ?_
  refine lv_topi (fun x11 ex11 => ?_)
  refine va_mmax hx hb (hml.trans hl.1.symm) hown (hts _ k_K_52) (hts _ q_max_st) (hts _ q_math) (hts _ q_max_co) (Nat.le_of_ble_eq_true rfl) (Nat.le_of_ble_eq_true rfl) (Nat.zero_le _) (Nat.zero_le _) d_K_settle_14 ?_
  refine lv_topi (fun x14 ex14 => ?_)
  refine lv_istore_n (lv' := [(1, .int x14), (0, .ref (kA z))]) hx hb d_K_settle_17 rfl hl (by decide) rfl (fun ls hl => ?_)
  refine lv_lconst (v := 0) hx hb d_K_settle_18 (by decide) ?_
  refine lv_lstore_n (lv' := [(2, .long 0), (1, .int x14), (0, .ref (kA z))]) hx hb d_K_settle_19 rfl hl (by decide) rfl (fun ls hl => ?_)
  refine lv_lconst (v := 0) hx hb d_K_settle_20 (by decide) ?_
  refine lv_lstore (lv' := [(4, .long 0), (2, .long 0), (1, .int x14), (0, .ref (kA z))]) hx hb d_K_settle_21 hl (by decide) rfl (fun ls hl => ?_)
  refine lv_iconst (v := 0) hx hb d_K_settle_23 (by decide) ?_
  refine lv_istore (lv' := [(6, .int 0), (4, .long 0), (2, .long 0), (1, .int x14), (0, .ref (kA z))]) hx hb d_K_settle_24 hl (by decide) rfl (fun ls hl => ?_)
  have e14 : x14 = nI M := by
    rw [ex14, ex4, ex11, hn1, hr1, eM]
    exact max_nI (by omega) (by omega)
  rw [e14] at hl
  exact K M 0 F G 0 0 _ _ ls (Nat.zero_add M) rfl rfl (by decide) (by decide) (fun _ _ => rfl) (fun _ _ => rfl) (by rw [← eF, sW_self, ← eG, sW_self]; exact hU) (lv_sub hl [4, 3, 2, 1, 0] rfl)
end
section
/-! UnitFinder$Recurrence: a step, the end -/
theorem mod_stp {Q a b c d L B : Nat} : ((Q * a + c) * L + (Q * b + d) * B) % MM = (Q * ((a * L + b * B) % MM) + (c * L + d * B) % MM) % MM := by
  rw [Nat.add_mod (Q * ((a * L + b * B) % MM)), Nat.mul_mod Q, Nat.mod_mod, ← Nat.mul_mod, Nat.mod_mod, ← Nat.add_mod]
  congr 1
  rw [Nat.add_mul, Nat.add_mul, Nat.mul_add, Nat.mul_assoc, Nat.mul_assoc]
  omega
theorem recL_lt (g : St) : recL g < MM := Nat.mod_lt _ (pB 512)
theorem recB_lt (g : St) : recB g < MM := Nat.mod_lt _ (pB 512)
set_option maxHeartbeats 4000000 in
set_option maxRecDepth 100000 in
theorem c_step (l : Launch) (z : ZZ) (sz : Nat) (g : St) (hok : rOk g) {Q : Nat} (hQ : Q < 1048576) : Met l y_K_step (zw y_K_step b_K_step 6 none) { frames := 2, cells := 0, slots := 0, locals := 53 } (va_Pc [.ref (kA z), .int (nI Q)] (zI z g sz)) (va_Qv (fun g2 => sU g g2 ∧ rOk g2 ∧ recL g2 = (Q * recL g + recB g) % MM ∧ recB g2 = recL g) (zO z sz) (zA z sz)) 0 0 (zA z sz) := by
  refine z_ofW (by decide) (Nat.le_of_ble_eq_true rfl) (fun p e s m below meth c hx hb hr hml hown hts hlocks hname hsz hN ls hU hl => ?_)
  have hl : lv_has ls 6 [(0, .ref (kA z)), (1, .int (nI Q))] := hl
  have hQ1 : ∀ x : Int64, x = (nI Q).toInt64 → uN x = Q := fun x hx => by rw [hx]; exact uN_nI (by omega)
  have E : ∀ (g1 : St) (H : Heap) (locs : List Loc) (ls : Array Slot), rOk g1 → sU g g1 → recL g1 = recL g → recB g1 = recB g → Q * uN (g1.2.2.1 0) + uN (g1.2.2.1 2) < 1073741824 → Q * uN (g1.2.2.1 1) + uN (g1.2.2.1 3) < 1073741824 → Ws z g1 s.heap H locs s → lv_has ls 6 [(0, .ref (kA z)), (1, .int (nI Q))] → W p l e ({ frames := 2, cells := 0, slots := 0, locals := 53 } : Room) s m ([.ref (kA z), .int (nI Q)] : List Value).toArray below meth c H locs 0 0 (MQ below (va_Qv (fun g2 => sU g g2 ∧ rOk g2 ∧ recL g2 = (Q * recL g + recB g) % MM ∧ recB g2 = recL g) (zO z sz) (zA z sz)) ([.ref (kA z), .int (nI Q)] : List Value).toArray s 0 0 (zA z sz)) (F0 m 42 ls []) := by
    intro g1 H locs ls hok1 hs1 hL1 hB1 hk1 hk2 hU hl
    obtain ⟨h8, h9, hb8, hb9, k0, k1, k2, k3⟩ := hok1
    refine lv_iload_n hx hb d_K_step_42 rfl (lv_at hl 1 rfl) ?_
    refine lv_i2l hx hb d_K_step_43 rfl ?_
    refine lv_topl (fun x43 ex43 => ?_)
    refine lv_aload_n hx hb d_K_step_44 rfl (lv_at hl 0 rfl) ?_
    refine va_get (D := z.1) (ci := 1) (v := .long (g1.2.2.1 0)) (C := R_K) (T := F_K) (N := 6) hx hb hts in_K hown hU.2.1 hU.1 1 rfl rfl 2 (by decide) (hts _ k_K_28) (fun _ h9 => h9) rfl d_K_step_45 ?_
    refine lv_topl (fun x45 ex45 => ?_)
    refine lv_lmul hx hb d_K_step_48 ?_
    refine lv_topl (fun x48 ex48 => ?_)
    refine lv_aload_n hx hb d_K_step_49 rfl (lv_at hl 0 rfl) ?_
    refine va_get (D := z.1) (ci := 1) (v := .long (g1.2.2.1 2)) (C := R_K) (T := F_K) (N := 6) hx hb hts in_K hown hU.2.1 hU.1 1 rfl rfl 4 (by decide) (hts _ k_K_32) (fun _ h9 => h9) rfl d_K_step_50 ?_
    refine lv_topl (fun x50 ex50 => ?_)
    refine lv_ladd hx hb d_K_step_53 ?_
    refine lv_topl (fun x53 ex53 => ?_)
    refine lv_lstore_n (lv' := [(2, .long x53), (0, .ref (kA z)), (1, .int (nI Q))]) hx hb d_K_step_54 rfl hl (by decide) rfl (fun ls hl => ?_)
    refine lv_iload_n hx hb d_K_step_55 rfl (lv_at hl 2 rfl) ?_
    refine lv_i2l hx hb d_K_step_56 rfl ?_
    refine lv_topl (fun x56 ex56 => ?_)
    refine lv_aload_n hx hb d_K_step_57 rfl (lv_at hl 1 rfl) ?_
    refine va_get (D := z.1) (ci := 1) (v := .long (g1.2.2.1 1)) (C := R_K) (T := F_K) (N := 6) hx hb hts in_K hown hU.2.1 hU.1 1 rfl rfl 3 (by decide) (hts _ k_K_37) (fun _ h9 => h9) rfl d_K_step_58 ?_
    refine lv_topl (fun x58 ex58 => ?_)
    refine lv_lmul hx hb d_K_step_61 ?_
    refine lv_topl (fun x61 ex61 => ?_)
    refine lv_aload_n hx hb d_K_step_62 rfl (lv_at hl 1 rfl) ?_
    refine va_get (D := z.1) (ci := 1) (v := .long (g1.2.2.1 3)) (C := R_K) (T := F_K) (N := 6) hx hb hts in_K hown hU.2.1 hU.1 1 rfl rfl 5 (by decide) (hts _ k_K_40) (fun _ h9 => h9) rfl d_K_step_63 ?_
    refine lv_topl (fun x63 ex63 => ?_)
    refine lv_ladd hx hb d_K_step_66 ?_
    refine lv_topl (fun x66 ex66 => ?_)
    refine lv_lstore (lv' := [(4, .long x66), (2, .long x53), (0, .ref (kA z)), (1, .int (nI Q))]) hx hb d_K_step_67 hl (by decide) rfl (fun ls hl => ?_)
    refine lv_aload_n hx hb d_K_step_69 rfl (lv_at hl 2 rfl) ?_
    refine lv_aload_n hx hb d_K_step_70 rfl (lv_at hl 2 rfl) ?_
    refine va_get (D := z.1) (ci := 1) (v := .long (g1.2.2.1 0)) (C := R_K) (T := F_K) (N := 6) hx hb hts in_K hown hU.2.1 hU.1 1 rfl rfl 2 (by decide) (hts _ k_K_28) (fun _ h9 => h9) rfl d_K_step_71 ?_
    refine lv_topl (fun x71 ex71 => ?_)
    refine zp_K2 hx hb hts hown hU (hts _ k_K_32) d_K_step_74 (fun H locs hU => ?_)
    generalize eg74 : sK g1 2 x71 = g74 at hU
    refine lv_aload_n hx hb d_K_step_77 rfl (lv_at hl 2 rfl) ?_
    refine lv_aload_n hx hb d_K_step_78 rfl (lv_at hl 2 rfl) ?_
    refine va_get (D := z.1) (ci := 1) (v := .long (g74.2.2.1 1)) (C := R_K) (T := F_K) (N := 6) hx hb hts in_K hown hU.2.1 hU.1 1 rfl rfl 3 (by decide) (hts _ k_K_37) (fun _ h9 => h9) rfl d_K_step_79 ?_
    refine lv_topl (fun x79 ex79 => ?_)
    refine zp_K3 hx hb hts hown hU (hts _ k_K_40) d_K_step_82 (fun H locs hU => ?_)
    generalize eg82 : sK g74 3 x79 = g82 at hU
    refine lv_aload_n hx hb d_K_step_85 rfl (lv_at hl 2 rfl) ?_
    refine lv_lload_n hx hb d_K_step_86 rfl (lv_at hl 1 rfl) ?_
    refine zp_K0 hx hb hts hown hU (hts _ k_K_28) d_K_step_87 (fun H locs hU => ?_)
    generalize eg87 : sK g82 0 x53 = g87 at hU
    refine lv_aload_n hx hb d_K_step_90 rfl (lv_at hl 2 rfl) ?_
    refine lv_lload hx hb d_K_step_91 (lv_at hl 0 rfl) ?_
    refine zp_K1 hx hb hts hown hU (hts _ k_K_37) d_K_step_93 (fun H locs hU => ?_)
    generalize eg93 : sK g87 1 x66 = g93 at hU
    have u43 := hQ1 x43 ex43
    have u56 := hQ1 x56 ex56
    have u48 : uN x48 = Q * uN (g1.2.2.1 0) := by rw [ex48, uN_mul', u43, ex45]; rw [u43, ex45]; omega
    have u53 : uN x53 = Q * uN (g1.2.2.1 0) + uN (g1.2.2.1 2) := by rw [ex53, uN_add', u48, ex50]; rw [u48, ex50]; omega
    have u61 : uN x61 = Q * uN (g1.2.2.1 1) := by rw [ex61, uN_mul', u56, ex58]; rw [u56, ex58]; omega
    have u66 : uN x66 = Q * uN (g1.2.2.1 1) + uN (g1.2.2.1 3) := by rw [ex66, uN_add', u61, ex63]; rw [u61, ex63]; omega
    have e71 : x71 = g1.2.2.1 0 := ex71
    have e79 : x79 = g1.2.2.1 1 := by rw [ex79, ← eg74]; rfl
    have eF : g93 = sK (sK (sK (sK g1 2 (g1.2.2.1 0)) 3 (g1.2.2.1 1)) 0 x53) 1 x66 := by rw [← eg93, ← eg87, ← eg82, ← eg74, e71, e79]
    have q0 : g93.2.2.1 0 = x53 := by rw [eF]; rfl
    have q1 : g93.2.2.1 1 = x66 := by rw [eF]; rfl
    have q2 : g93.2.2.1 2 = g1.2.2.1 0 := by rw [eF]; rfl
    have q3 : g93.2.2.1 3 = g1.2.2.1 1 := by rw [eF]; rfl
    have qb : g93.2.2.2 = g1.2.2.2 := by rw [eF]; rfl
    exact z_vret hx hb hr hlocks hsz hU ⟨hs1.tr (by rw [eF]; exact ⟨rfl, rfl, fun _ _ _ => rfl⟩), ⟨by rw [qb]; exact h8, by rw [qb]; exact h9, by rw [qb]; exact hb8, by rw [qb]; exact hb9, by rw [q0, u53]; exact hk1, by rw [q1, u66]; exact hk2, by rw [q2]; exact k0, by rw [q3]; exact k1⟩, by
      rw [← hL1, ← hB1, recL, qb, q0, q1, u53, u66]
      exact mod_stp, by rw [← hL1, recB, qb, q2, q3]; rfl⟩ d_K_step_96
  obtain ⟨h8, h9, hb8, hb9, k0, k1, k2, k3⟩ := id hok
  have ES : ∀ (H : Heap) (locs : List Loc) (ls : Array Slot), Ws z g s.heap H locs s → lv_has ls 6 [(0, .ref (kA z)), (1, .int (nI Q))] → W p l e ({ frames := 2, cells := 0, slots := 0, locals := 53 } : Room) s m ([.ref (kA z), .int (nI Q)] : List Value).toArray below meth c H locs 0 0 (MQ below (va_Qv (fun g2 => sU g g2 ∧ rOk g2 ∧ recL g2 = (Q * recL g + recB g) % MM ∧ recB g2 = recL g) (zO z sz) (zA z sz)) ([.ref (kA z), .int (nI Q)] : List Value).toArray s 0 0 (zA z sz)) (F0 m 38 ls []) := by
    intro H locs ls hU hl
    refine lv_aload_n hx hb d_K_step_38 rfl (lv_at hl 0 rfl) ?_
    refine z_callv (z_run (As := []) (rest := []) hx hb hml hown hts hU hN (c_settle l z _ g hok) (w_K_settle_cw hts k_K_43 rfl rfl ⟨Nat.le_of_ble_eq_true rfl, Nat.le_of_ble_eq_true rfl⟩) (z_recvK hU) rfl hl.1 rfl (lv_room (Nat.le_of_ble_eq_true rfl)) d_K_step_39 ⟨Nat.zero_le _, Nat.zero_le _⟩) hU (fun g39 H locs hp hU => ?_)
    obtain ⟨a1, a2, a3, a4, a5⟩ := hp
    have o0 : uN (g39.2.2.1 0) = 1 := by rw [a3]; rfl
    have o1 : uN (g39.2.2.1 1) = 0 := by rw [a3]; rfl
    have o2 : uN (g39.2.2.1 2) = 0 := by rw [a3]; rfl
    have o3 : uN (g39.2.2.1 3) = 1 := by rw [a3]; rfl
    exact E g39 _ _ ls a2 a1 (by rw [recL, o0, o1, a4, a5, Nat.one_mul, Nat.zero_mul, Nat.add_zero, Nat.mod_eq_of_lt (recL_lt g)]) (by rw [recB, o2, o3, a4, a5, Nat.one_mul, Nat.zero_mul, Nat.zero_add, Nat.mod_eq_of_lt (recB_lt g)]) (by rw [o0, o2]; omega) (by rw [o1, o3]; omega) hU hl
  have m0 : Q * uN (g.2.2.1 0) ≤ 1048576 * 1073741824 := Nat.mul_le_mul (by omega) (by omega)
  have m1 : Q * uN (g.2.2.1 1) ≤ 1048576 * 1073741824 := Nat.mul_le_mul (by omega) (by omega)
  refine lv_iload_n hx hb d_K_step_0 rfl (lv_at hl 1 rfl) ?_
  refine lv_i2l hx hb d_K_step_1 rfl ?_
  refine lv_topl (fun x1 ex1 => ?_)
  refine lv_aload_n hx hb d_K_step_2 rfl (lv_at hl 0 rfl) ?_
  refine va_get (D := z.1) (ci := 1) (v := .long (g.2.2.1 0)) (C := R_K) (T := F_K) (N := 6) hx hb hts in_K hown hU.2.1 hU.1 1 rfl rfl 2 (by decide) (hts _ k_K_28) (fun _ h9 => h9) rfl d_K_step_3 ?_
  refine lv_topl (fun x3 ex3 => ?_)
  refine lv_lmul hx hb d_K_step_6 ?_
  refine lv_topl (fun x6 ex6 => ?_)
  refine lv_aload_n hx hb d_K_step_7 rfl (lv_at hl 0 rfl) ?_
  refine va_get (D := z.1) (ci := 1) (v := .long (g.2.2.1 2)) (C := R_K) (T := F_K) (N := 6) hx hb hts in_K hown hU.2.1 hU.1 1 rfl rfl 4 (by decide) (hts _ k_K_32) (fun _ h9 => h9) rfl d_K_step_8 ?_
  refine lv_topl (fun x8 ex8 => ?_)
  refine lv_ladd hx hb d_K_step_11 ?_
  refine lv_topl (fun x11 ex11 => ?_)
  refine lv_ldc2 (v := 1073741824) hx hb hown (hts _ k_K_35) d_K_step_12 ?_
  refine W.lcmp hx hb d_K_step_15 ?_
  have u1 := hQ1 x1 ex1
  have u6 : uN x6 = Q * uN (g.2.2.1 0) := by rw [ex6, uN_mul', u1, ex3]; rw [u1, ex3]; omega
  have u11 : uN x11 = Q * uN (g.2.2.1 0) + uN (g.2.2.1 2) := by rw [ex11, uN_add', u6, ex8]; rw [u6, ex8]; omega
  have t11 := uN_int x11
  rw [if_pos (by omega)] at t11
  refine lv_if_ge (tgt := 38) hx hb d_K_step_16 (by decide) (fun c16 => ?_) (fun c16 => ?_)
  · exact ES _ _ ls hU (lv_sub hl [0, 1] rfl)
  · have h16 : Q * uN (g.2.2.1 0) + uN (g.2.2.1 2) < 1073741824 := by
      have q : ¬ (1073741824 : Int64) ≤ x11 := fun q => c16 ((lg_cmp_ge _ _).mpr q)
      rw [Int64.le_iff_toInt_le, show (1073741824 : Int64).toInt = 1073741824 from rfl] at q
      omega
    refine lv_iload_n hx hb d_K_step_19 rfl (lv_at hl 1 rfl) ?_
    refine lv_i2l hx hb d_K_step_20 rfl ?_
    refine lv_topl (fun x20 ex20 => ?_)
    refine lv_aload_n hx hb d_K_step_21 rfl (lv_at hl 0 rfl) ?_
    refine va_get (D := z.1) (ci := 1) (v := .long (g.2.2.1 1)) (C := R_K) (T := F_K) (N := 6) hx hb hts in_K hown hU.2.1 hU.1 1 rfl rfl 3 (by decide) (hts _ k_K_37) (fun _ h9 => h9) rfl d_K_step_22 ?_
    refine lv_topl (fun x22 ex22 => ?_)
    refine lv_lmul hx hb d_K_step_25 ?_
    refine lv_topl (fun x25 ex25 => ?_)
    refine lv_aload_n hx hb d_K_step_26 rfl (lv_at hl 0 rfl) ?_
    refine va_get (D := z.1) (ci := 1) (v := .long (g.2.2.1 3)) (C := R_K) (T := F_K) (N := 6) hx hb hts in_K hown hU.2.1 hU.1 1 rfl rfl 5 (by decide) (hts _ k_K_40) (fun _ h9 => h9) rfl d_K_step_27 ?_
    refine lv_topl (fun x27 ex27 => ?_)
    refine lv_ladd hx hb d_K_step_30 ?_
    refine lv_topl (fun x30 ex30 => ?_)
    refine lv_ldc2 (v := 1073741824) hx hb hown (hts _ k_K_35) d_K_step_31 ?_
    refine W.lcmp hx hb d_K_step_34 ?_
    have u20 := hQ1 x20 ex20
    have u25 : uN x25 = Q * uN (g.2.2.1 1) := by rw [ex25, uN_mul', u20, ex22]; rw [u20, ex22]; omega
    have u30 : uN x30 = Q * uN (g.2.2.1 1) + uN (g.2.2.1 3) := by rw [ex30, uN_add', u25, ex27]; rw [u25, ex27]; omega
    have t30 := uN_int x30
    rw [if_pos (by omega)] at t30
    refine lv_if_lt (tgt := 42) hx hb d_K_step_35 (by decide) (fun c35 => ?_) (fun c35 => ?_)
    · have h35 : Q * uN (g.2.2.1 1) + uN (g.2.2.1 3) < 1073741824 := by
        have q : x30 < (1073741824 : Int64) := (lg_cmp_lt _ _).mp c35
        rw [Int64.lt_iff_toInt_lt, show (1073741824 : Int64).toInt = 1073741824 from rfl] at q
        omega
      exact E g _ _ ls hok (sU.rf g) rfl rfl h16 h35 hU (lv_sub hl [0, 1] rfl)
    · exact ES _ _ ls hU (lv_sub hl [0, 1] rfl)
set_option maxHeartbeats 4000000 in
set_option maxRecDepth 100000 in
theorem c_finish (l : Launch) (z : ZZ) (sz : Nat) (g : St) (hok : rOk g) {A : Nat} (hA : A < 1048576) : Met l y_K_finish (zw y_K_finish b_K_finish 2 none) { frames := 2, cells := 0, slots := 0, locals := 53 } (va_Pc [.ref (kA z), .int (nI A)] (zI z g sz)) (va_Qv (fun g2 => sU g g2 ∧ rOk g2 ∧ bv (g2.2.2.2 8) = recL g ∧ bv (g2.2.2.2 9) = (A * recL g + 2 * recB g) % MM) (zO z sz) (zA z sz)) 0 0 (zA z sz) := by
  refine z_ofW (by decide) (Nat.le_of_ble_eq_true rfl) (fun p e s m below meth c hx hb hr hml hown hts hlocks hname hsz hN ls hU hl => ?_)
  have hl : lv_has ls 2 [(0, .ref (kA z)), (1, .int (nI A))] := hl
  refine lv_aload_n hx hb d_K_finish_0 rfl (lv_at hl 0 rfl) ?_
  refine z_callv (z_run (As := []) (rest := []) hx hb hml hown hts hU hN (c_settle l z _ g hok) (w_K_settle_cw hts k_K_43 rfl rfl ⟨Nat.le_of_ble_eq_true rfl, Nat.le_of_ble_eq_true rfl⟩) (z_recvK hU) rfl hl.1 rfl (lv_room (Nat.le_of_ble_eq_true rfl)) d_K_finish_1 ⟨Nat.zero_le _, Nat.zero_le _⟩) hU (fun g1 H locs hp hU => ?_)
  obtain ⟨a1, ⟨h8, h9, hb8, hb9, k0, k1, k2, k3⟩, a3, a4, a5⟩ := hp
  refine lv_aload_n hx hb d_K_finish_4 rfl (lv_at hl 0 rfl) ?_
  refine lv_iload_n hx hb d_K_finish_5 rfl (lv_at hl 1 rfl) ?_
  refine lv_i2l hx hb d_K_finish_6 rfl ?_
  refine lv_topl (fun x6 ex6 => ?_)
  refine zp_K2 hx hb hts hown hU (hts _ k_K_32) d_K_finish_7 (fun H locs hU => ?_)
  generalize eg7 : sK g1 2 x6 = g7 at hU
  refine lv_aload_n hx hb d_K_finish_10 rfl (lv_at hl 0 rfl) ?_
  refine lv_ldc2 (v := 2) hx hb hown (hts _ k_K_46) d_K_finish_11 ?_
  refine zp_K3 hx hb hts hown hU (hts _ k_K_40) d_K_finish_14 (fun H locs hU => ?_)
  generalize eg14 : sK g7 3 2 = g14 at hU
  refine lv_aload_n hx hb d_K_finish_17 rfl (lv_at hl 0 rfl) ?_
  have u6 : uN x6 = A := by rw [ex6]; exact uN_nI (by omega)
  have eF : g14 = sK (sK g1 2 x6) 3 2 := by rw [← eg14, ← eg7]
  have q0 : g14.2.2.1 0 = 1 := by rw [eF]; show g1.2.2.1 0 = 1; rw [a3]; rfl
  have q1 : g14.2.2.1 1 = 0 := by rw [eF]; show g1.2.2.1 1 = 0; rw [a3]; rfl
  have q2 : g14.2.2.1 2 = x6 := by rw [eF]; rfl
  have q3 : g14.2.2.1 3 = 2 := by rw [eF]; rfl
  have qb : g14.2.2.2 = g1.2.2.2 := by rw [eF]; rfl
  have hok2 : rOk g14 := ⟨by rw [qb]; exact h8, by rw [qb]; exact h9, by rw [qb]; exact hb8, by rw [qb]; exact hb9, by rw [q0]; decide, by rw [q1]; decide, by rw [q2, u6]; omega, by rw [q3]; decide⟩
  refine z_callv (z_run (As := []) (rest := []) hx hb hml hown hts hU hN (c_settle l z _ g14 hok2) (w_K_settle_cw hts k_K_43 rfl rfl ⟨Nat.le_of_ble_eq_true rfl, Nat.le_of_ble_eq_true rfl⟩) (z_recvK hU) rfl hl.1 rfl (lv_room (Nat.le_of_ble_eq_true rfl)) d_K_finish_18 ⟨Nat.zero_le _, Nat.zero_le _⟩) hU (fun g18 H locs hp hU => ?_)
  obtain ⟨s1, s2, s3, s4, s5⟩ := hp
  exact z_vret hx hb hr hlocks hsz hU ⟨(a1.tr (by rw [eF]; exact ⟨rfl, rfl, fun _ _ _ => rfl⟩)).tr s1, s2, by
    rw [s4, recL, q0, q1, qb, a4, a5, show uN 1 = 1 from rfl, show uN 0 = 0 from rfl, Nat.one_mul, Nat.zero_mul, Nat.add_zero, Nat.mod_eq_of_lt (recL_lt g)], by
    rw [s5, recB, q2, q3, qb, a4, a5, u6, show uN 2 = 2 from rfl]⟩ d_K_finish_21
end
section
/-! THE RING, as the class walks it: numbers alone -/
theorem red_flip {D r b A c : Nat} (h1 : r * r < D) (h2 : D < (r + 1) * (r + 1)) (hb : b ≤ r) (e : D = b * b + 4 * (A * c)) (hA1 : r + 1 ≤ b + 2 * A) (hA2 : 2 * A ≤ b + r) : r + 1 ≤ b + 2 * c ∧ 2 * c ≤ b + r := by
  obtain ⟨t, rfl⟩ : ∃ t, r = b + t := ⟨r - b, by omega⟩
  have e4 : (2 * A) * (2 * c) = 4 * (A * c) := by rw [Nat.mul_mul_mul_comm]
  constructor
  · apply Classical.byContradiction
    intro q
    have h3 : (2 * A) * (2 * c) ≤ (b + (b + t)) * t := Nat.mul_le_mul hA2 (by omega)
    have h4 : (b + (b + t)) * t = b * t + (b * t + t * t) := by rw [Nat.add_mul, Nat.add_mul]
    have h5 : (b + t) * (b + t) = b * b + b * t + (b * t + t * t) := by rw [Nat.add_mul, Nat.mul_add, Nat.mul_add, Nat.mul_comm t b]
    omega
  · apply Classical.byContradiction
    intro q
    have h3 : (t + 1) * (b + (b + t) + 1) ≤ (2 * A) * (2 * c) := Nat.mul_le_mul (by omega) (by omega)
    have h4 : (t + 1) * (b + (b + t) + 1) = b * t + b * t + t * t + t + (b + (b + t) + 1) := by
      rw [Nat.add_mul, Nat.one_mul, Nat.mul_add, Nat.mul_add, Nat.mul_add, Nat.mul_comm t b]
      omega
    have h5 : (b + t + 1) * (b + t + 1) = b * b + b * t + (b * t + t * t) + (b + t) + (b + t) + 1 := by
      rw [Nat.add_mul, Nat.add_mul, Nat.mul_add, Nat.mul_add, Nat.mul_add, Nat.mul_add, Nat.mul_comm t b]
      omega
    omega
/-- a reduced pair: b, and the number c behind it; A the one ahead of it -/
def Red (D r A b c : Nat) : Prop := b ≤ r ∧ 1 ≤ A ∧ 1 ≤ c ∧ D = b * b + 4 * (A * c) ∧ r + 1 ≤ b + 2 * c ∧ 2 * c ≤ b + r
/-- the next b and the next c -/
def nxB (r b c : Nat) : Nat := 2 * c * ((b + r) / (2 * c)) - b
def nxC (D r b c : Nat) : Nat := (D - nxB r b c * nxB r b c) / (4 * c)
theorem nx_q {r b c : Nat} (hc : 1 ≤ c) (h : 2 * c ≤ b + r) : 1 ≤ (b + r) / (2 * c) := (Nat.le_div_iff_mul_le (by omega)).mpr (by omega)
theorem nx_b {r b c : Nat} (hb : b ≤ r) (hc : 1 ≤ c) (h1 : r + 1 ≤ b + 2 * c) (h2 : 2 * c ≤ b + r) : b ≤ 2 * c * ((b + r) / (2 * c)) ∧ 1 ≤ nxB r b c ∧ nxB r b c ≤ r ∧ r + 1 ≤ nxB r b c + 2 * c ∧ 2 * c ≤ nxB r b c + r := by
  have hq := nx_q hc h2
  have e := Nat.div_add_mod (b + r) (2 * c)
  have hm := Nat.mod_lt (b + r) (show 0 < 2 * c by omega)
  unfold nxB
  generalize (b + r) / (2 * c) = q at hq e
  generalize (b + r) % (2 * c) = w at e hm
  have h3 : 2 * c * 1 ≤ 2 * c * q := Nat.mul_le_mul_left _ hq
  generalize 2 * c * q = X at h3 e
  omega
theorem nx_c {D r A b c : Nat} (h0 : r * r < D) (h : Red D r A b c) : D = nxB r b c * nxB r b c + 4 * (c * nxC D r b c) ∧ 1 ≤ nxC D r b c := by
  obtain ⟨hb, hA, hc, e, h1, h2⟩ := h
  obtain ⟨k1, k2, k3, k4, k5⟩ := nx_b hb hc h1 h2
  have hx : nxB r b c * nxB r b c ≤ r * r := Nat.mul_le_mul k3 k3
  have hd : ∃ t, D = nxB r b c * nxB r b c + 4 * c * t := by
    obtain ⟨q, eq⟩ : ∃ q, q = (b + r) / (2 * c) := ⟨_, rfl⟩
    have eB : nxB r b c + b = 2 * c * q := by unfold nxB; rw [← eq] at k1 ⊢; omega
    generalize nxB r b c = B at eB hx
    -- B = 2 c q - b; D - B B = 4 c (A + q b - c q q); in numbers: A + q b = t + c q q
    have e1 : B * B + 2 * (B * b) + b * b = 4 * c * (c * q * q) := by
      have : (B + b) * (B + b) = (2 * c * q) * (2 * c * q) := by rw [eB]
      rw [Nat.add_mul, Nat.mul_add, Nat.mul_add, Nat.mul_comm b B] at this
      have e2 : 2 * c * q * (2 * c * q) = 4 * c * (c * q * q) := by
        rw [show 4 * c * (c * q * q) = (2 * 2) * c * (c * q * q) from rfl]
        ac_rfl
      omega
    have e3 : 2 * (B * b) + 2 * (b * b) = 4 * c * (q * b) := by
      have : (B + b) * b = 2 * c * q * b := by rw [eB]
      rw [Nat.add_mul] at this
      have e2 : 4 * c * (q * b) = 2 * (2 * c * q * b) := by
        simp only [Nat.mul_assoc]
        omega
      omega
    have e5 : D + 4 * c * (c * q * q) = B * B + 4 * c * (A + q * b) := by
      rw [Nat.mul_add (4 * c)]
      have : 4 * (A * c) = 4 * c * A := by rw [Nat.mul_comm A c, Nat.mul_assoc]
      omega
    have e6 : c * q * q ≤ A + q * b := by
      apply Classical.byContradiction
      intro w
      have := Nat.mul_le_mul_left (4 * c) (show A + q * b ≤ c * q * q by omega)
      omega
    refine ⟨A + q * b - c * q * q, ?_⟩
    rw [Nat.mul_sub]
    have := Nat.mul_le_mul_left (4 * c) e6
    omega
  obtain ⟨t, ht⟩ := hd
  have et : nxC D r b c = t := by
    unfold nxC
    rw [show D - nxB r b c * nxB r b c = 4 * c * t by omega]
    exact Nat.mul_div_cancel_left t (by omega)
  rw [et]
  refine ⟨by rw [← Nat.mul_assoc]; exact ht, ?_⟩
  rcases Nat.eq_zero_or_pos t with h | h
  · rw [h, Nat.mul_zero] at ht; omega
  · exact h
theorem Red.next {D r A b c : Nat} (h0 : r * r < D) (h3 : D < (r + 1) * (r + 1)) (h : Red D r A b c) : Red D r c (nxB r b c) (nxC D r b c) := by
  obtain ⟨e1, e2⟩ := nx_c h0 h
  obtain ⟨hb, hA, hc, e, h1, h2⟩ := h
  obtain ⟨k1, k2, k3, k4, k5⟩ := nx_b hb hc h1 h2
  obtain ⟨f1, f2⟩ := red_flip h0 h3 k3 e1 k4 k5
  exact ⟨k3, hc, e2, e1, f1, f2⟩
end
section
/-! UnitFinder: the automorph, the units below 0 -/
/-- nothing has changed but numbers 2 .. 5 -/
def sP (g g2 : St) : Prop := g2.1 = g.1 ∧ g2.2.1 = g.2.1 ∧ g2.2.2.1 = g.2.2.1 ∧ ∀ j, (j < 2 ∨ 5 < j) → g2.2.2.2 j = g.2.2.2 j
theorem sP.rf (g : St) : sP g g := ⟨rfl, rfl, rfl, fun _ _ => rfl⟩
theorem sP.tr {a b c : St} (h : sP a b) (k : sP b c) : sP a c := ⟨k.1.trans h.1, k.2.1.trans h.2.1, k.2.2.1.trans h.2.2.1, fun j q => (k.2.2.2 j q).trans (h.2.2.2 j q)⟩
theorem sP_G (g : St) {i : Nat} (b : BS) (h1 : 2 ≤ i) (h2 : i ≤ 5) : sP g (sG g i b) := ⟨rfl, rfl, rfl, fun j q => sG_n g b (by omega)⟩
/-- the four numbers of an automorph, as the class makes them of t, u (two numbers below MM) and a form -/
def amX (u : Nat) (k : Int) : Nat := k.natAbs * u % MM
def amT (u : Nat) (k : Int) : Int := if k < 0 then -(amX u k : Int) else (amX u k : Int)
def amD (t u : Nat) (b : Int) : Int := if t < amX u b then -(((amX u b - t) / 2 : Nat) : Int) else (((t - amX u b) / 2 : Nat) : Int)
def amS (t u : Nat) (b : Int) : Int := ((((t + amX u b) % MM) / 2 : Nat) : Int)
theorem bz_T {b : BS} {u : Nat} {k : Int} (h1 : b.2.1 = if k < 0 then 1 else 0) (h2 : bv b = amX u k) : bz b = amT u k := by
  unfold bz amT
  by_cases q : k < 0
  · rw [if_pos q] at h1 ⊢
    rw [if_neg (by rw [h1]; decide), h2]
  · rw [if_neg q] at h1 ⊢
    rw [if_pos h1, h2]
theorem amX_lt (u : Nat) (k : Int) : amX u k < MM := Nat.mod_lt _ (pB 512)
theorem neg_lt0 (x : Int32) (h : x.toInt ≠ -2147483648) : (-x).toInt = -x.toInt := Jvm.Kit.i32_neg h
set_option maxHeartbeats 4000000 in
set_option maxRecDepth 100000 in
theorem c_makeAutomorph (l : Launch) (z : ZZ) (sz : Nat) (g : St) (h0 : bOk (g.2.2.2 0)) (h1 : bOk (g.2.2.2 1)) (hb0 : (g.2.2.2 0).2.1 = 0) (hb1 : (g.2.2.2 1).2.1 = 0) {a b c0 : Int32} (hbr : b.toInt.natAbs < 2 ^ 31) (hcr : c0.toInt.natAbs < 2 ^ 31) : Met l y_U_makeAutomorph (zw y_U_makeAutomorph b_U_makeAutomorph 6 none) { frames := 2, cells := 0, slots := 0, locals := 51 } (va_Pc [.ref (mA z), .int a, .int b, .int c0] (zI z g sz)) (va_Qv (fun g2 => sP g g2 ∧ bOk (g2.2.2.2 2) ∧ bOk (g2.2.2.2 3) ∧ bOk (g2.2.2.2 4) ∧ bOk (g2.2.2.2 5) ∧ bz (g2.2.2.2 2) = (if b.toInt < 0 then amS (bv (g.2.2.2 0)) (bv (g.2.2.2 1)) b.toInt else amD (bv (g.2.2.2 0)) (bv (g.2.2.2 1)) b.toInt) ∧ bz (g2.2.2.2 3) = amT (bv (g.2.2.2 1)) (-c0.toInt) ∧ bz (g2.2.2.2 4) = amT (bv (g.2.2.2 1)) a.toInt ∧ bz (g2.2.2.2 5) = (if b.toInt < 0 then amD (bv (g.2.2.2 0)) (bv (g.2.2.2 1)) b.toInt else amS (bv (g.2.2.2 0)) (bv (g.2.2.2 1)) b.toInt)) (zO z sz) (zA z sz)) 0 0 (zA z sz) := by
  refine z_ofW (by decide) (Nat.le_of_ble_eq_true rfl) (fun p e s m below meth c hx hb hr hml hown hts hlocks hname hsz hN ls hU hl => ?_)
  have hl : lv_has ls 6 [(0, .ref (mA z)), (1, .int a), (2, .int b), (3, .int c0)] := hl
  have E : ∀ (P N : Nat) (g1 : St) (H : Heap) (locs : List Loc) (ls : Array Slot), (P = 2 ∧ N = 5 ∧ b.toInt < 0 ∨ P = 5 ∧ N = 2 ∧ ¬ b.toInt < 0) → sP g g1 → bOk (g1.2.2.2 3) → bOk (g1.2.2.2 4) → bz (g1.2.2.2 3) = amT (bv (g.2.2.2 1)) (-c0.toInt) → bz (g1.2.2.2 4) = amT (bv (g.2.2.2 1)) a.toInt → Ws z g1 s.heap H locs s → lv_has ls 6 [(0, .ref (mA z)), (1, .int a), (2, .int b), (3, .int c0), (4, .ref (oA z P)), (5, .ref (oA z N))] → W p l e ({ frames := 2, cells := 0, slots := 0, locals := 51 } : Room) s m ([.ref (mA z), .int a, .int b, .int c0] : List Value).toArray below meth c H locs 0 0 (MQ below (va_Qv (fun g2 => sP g g2 ∧ bOk (g2.2.2.2 2) ∧ bOk (g2.2.2.2 3) ∧ bOk (g2.2.2.2 4) ∧ bOk (g2.2.2.2 5) ∧ bz (g2.2.2.2 2) = (if b.toInt < 0 then amS (bv (g.2.2.2 0)) (bv (g.2.2.2 1)) b.toInt else amD (bv (g.2.2.2 0)) (bv (g.2.2.2 1)) b.toInt) ∧ bz (g2.2.2.2 3) = amT (bv (g.2.2.2 1)) (-c0.toInt) ∧ bz (g2.2.2.2 4) = amT (bv (g.2.2.2 1)) a.toInt ∧ bz (g2.2.2.2 5) = (if b.toInt < 0 then amD (bv (g.2.2.2 0)) (bv (g.2.2.2 1)) b.toInt else amS (bv (g.2.2.2 0)) (bv (g.2.2.2 1)) b.toInt)) (zO z sz) (zA z sz)) ([.ref (mA z), .int a, .int b, .int c0] : List Value).toArray s 0 0 (zA z sz)) (F0 m 59 ls []) := by
    intro P N g1 H locs ls hPN hs hok3 hok4 hz3 hz4 hU hl
    have hP : P < 10 := by omega
    have hN1 : N < 10 := by omega
    have hNP : N ≠ P := by omega
    have q0 : g1.2.2.2 0 = g.2.2.2 0 := hs.2.2.2 0 (by omega)
    have q1 : g1.2.2.2 1 = g.2.2.2 1 := hs.2.2.2 1 (by omega)
    refine lv_aload hx hb d_U_makeAutomorph_59 (lv_at hl 4 rfl) ?_
    refine lv_aload_n hx hb d_U_makeAutomorph_61 rfl (lv_at hl 0 rfl) ?_
    refine va_get (D := z.1) (ci := 0) (v := .ref (oA z 1)) (C := R_U) (T := F_U) (N := 11) hx hb hts in_U hown hU.2.1 hU.1 0 rfl rfl 1 (by decide) (hts _ k_U_16) (fun _ h9 => h9) rfl d_U_makeAutomorph_62 ?_
    refine lv_iload_n hx hb d_U_makeAutomorph_65 rfl (lv_at hl 2 rfl) ?_
    refine va_mabs hx hb (hml.trans hl.1.symm) hown (hts _ k_U_133) (hts _ q_abs_st) (hts _ q_math) (hts _ q_abs_co) (Nat.le_of_ble_eq_true rfl) (Nat.le_of_ble_eq_true rfl) (Nat.zero_le _) (Nat.zero_le _) d_U_makeAutomorph_66 ?_
    refine lv_topi (fun x66 ex66 => ?_)
    have e66 : x66 = nI b.toInt.natAbs := by rw [ex66]; exact abs_nI hbr
    have t66 : x66.toInt = (b.toInt.natAbs : Int) := by rw [e66, nI_toInt hbr]
    refine z_callv (z_run (As := [.ref (oA z 1), .int x66]) (rest := []) hx hb hml hown hts hU hN (c_setTimes l z _ g1 hP (j := 1) (by decide) (by omega) (by rw [q1]; exact h1) x66) (w_B_setTimes_cw hts k_U_175 rfl rfl ⟨Nat.le_of_ble_eq_true rfl, Nat.le_of_ble_eq_true rfl⟩) (z_recvB hU hP) rfl hl.1 rfl (lv_room (Nat.le_of_ble_eq_true rfl)) d_U_makeAutomorph_69 ⟨Nat.zero_le _, Nat.zero_le _⟩) hU (fun g69 H locs hp hU => ?_)
    obtain ⟨bp, rfl, k1, k2, k3⟩ := hp
    rw [q1, hb1, if_neg (show ¬ x66 < 0 by rw [Int32.lt_iff_toInt_lt, t66, Int32.toInt_zero]; omega), if_pos rfl] at k2
    rw [q1, t66, Int.natAbs_natCast] at k3
    have k3 : bv bp = amX (bv (g.2.2.2 1)) b.toInt := k3
    refine lv_aload hx hb d_U_makeAutomorph_72 (lv_at hl 5 rfl) ?_
    refine lv_aload_n hx hb d_U_makeAutomorph_74 rfl (lv_at hl 0 rfl) ?_
    refine va_get (D := z.1) (ci := 0) (v := .ref (oA z 0)) (C := R_U) (T := F_U) (N := 11) hx hb hts in_U hown hU.2.1 hU.1 0 rfl rfl 0 (by decide) (hts _ k_U_10) (fun _ h9 => h9) rfl d_U_makeAutomorph_75 ?_
    refine lv_aload hx hb d_U_makeAutomorph_78 (lv_at hl 4 rfl) ?_
    refine z_callv (z_run (As := [.ref (oA z 0), .ref (oA z P)]) (rest := []) hx hb hml hown hts hU hN (c_setDifference l z _ (sG g1 P bp) hN1 (j := 0) (by decide) hP (by omega) (by omega) (by rw [sG_n _ _ (by omega), q0]; exact h0) (by rw [sG_s]; exact k1)) (w_B_setDifference_cw hts k_U_179 rfl rfl ⟨Nat.le_of_ble_eq_true rfl, Nat.le_of_ble_eq_true rfl⟩) (z_recvB hU hN1) rfl hl.1 rfl (lv_room (Nat.le_of_ble_eq_true rfl)) d_U_makeAutomorph_80 ⟨Nat.zero_le _, Nat.zero_le _⟩) hU (fun g80 H locs hp hU => ?_)
    obtain ⟨bn, rfl, m1, m2, m3⟩ := hp
    rw [sG_n _ _ (show 0 ≠ P by omega), sG_s, q0, k3] at m2 m3
    refine lv_aload hx hb d_U_makeAutomorph_83 (lv_at hl 4 rfl) ?_
    refine lv_aload_n hx hb d_U_makeAutomorph_85 rfl (lv_at hl 0 rfl) ?_
    refine va_get (D := z.1) (ci := 0) (v := .ref (oA z 0)) (C := R_U) (T := F_U) (N := 11) hx hb hts in_U hown hU.2.1 hU.1 0 rfl rfl 0 (by decide) (hts _ k_U_10) (fun _ h9 => h9) rfl d_U_makeAutomorph_86 ?_
    refine lv_aload hx hb d_U_makeAutomorph_89 (lv_at hl 4 rfl) ?_
    obtain ⟨n0, hn0, hn01, -, -⟩ := id h0
    obtain ⟨np, hnp, hnp1, -, -⟩ := id k1
    refine z_callv (z_run (As := [.ref (oA z 0), .ref (oA z P)]) (rest := []) hx hb hml hown hts hU hN (c_setSum l z _ (sG (sG g1 P bp) N bn) hP (j := 0) (by decide) (by omega) hn0 (by rw [sG_n _ _ (by omega), sG_n _ _ (by omega), q0]; exact hn01) hnp (by rw [sG_n _ _ (by omega), sG_s]; exact hnp1)) (w_B_setSum_cw hts k_U_182 rfl rfl ⟨Nat.le_of_ble_eq_true rfl, Nat.le_of_ble_eq_true rfl⟩) (z_recvB hU hP) rfl hl.1 rfl (lv_room (Nat.le_of_ble_eq_true rfl)) d_U_makeAutomorph_91 ⟨Nat.zero_le _, Nat.zero_le _⟩) hU (fun g91 H locs hp hU => ?_)
    obtain ⟨bq, rfl, o1, o2, o3⟩ := hp
    rw [sG_n _ _ (show 0 ≠ N by omega), sG_n _ _ (show 0 ≠ P by omega), sG_n _ _ (show P ≠ N by omega), sG_s, q0, ← bv_of hn0 hn01, ← bv_of hnp hnp1, k3] at o3
    refine lv_aload hx hb d_U_makeAutomorph_94 (lv_at hl 5 rfl) ?_
    refine z_callv (z_run (As := []) (rest := []) hx hb hml hown hts hU hN (c_halve l z _ (sG (sG (sG g1 P bp) N bn) P bq) hN1 (by rw [sG_n _ _ hNP, sG_s]; exact m1)) (w_B_halve_cw hts k_U_185 rfl rfl ⟨Nat.le_of_ble_eq_true rfl, Nat.le_of_ble_eq_true rfl⟩) (z_recvB hU hN1) rfl hl.1 rfl (lv_room (Nat.le_of_ble_eq_true rfl)) d_U_makeAutomorph_96 ⟨Nat.zero_le _, Nat.zero_le _⟩) hU (fun g96 H locs hp hU => ?_)
    obtain ⟨bn2, rfl, r1, r2, r3⟩ := hp
    rw [sG_n _ _ hNP, sG_s] at r2 r3
    refine lv_aload hx hb d_U_makeAutomorph_99 (lv_at hl 4 rfl) ?_
    refine z_callv (z_run (As := []) (rest := []) hx hb hml hown hts hU hN (c_halve l z _ (sG (sG (sG (sG g1 P bp) N bn) P bq) N bn2) hP (by rw [sG_n _ _ (by omega), sG_s]; exact o1)) (w_B_halve_cw hts k_U_185 rfl rfl ⟨Nat.le_of_ble_eq_true rfl, Nat.le_of_ble_eq_true rfl⟩) (z_recvB hU hP) rfl hl.1 rfl (lv_room (Nat.le_of_ble_eq_true rfl)) d_U_makeAutomorph_101 ⟨Nat.zero_le _, Nat.zero_le _⟩) hU (fun g101 H locs hp hU => ?_)
    obtain ⟨bq2, rfl, s1, s2, s3⟩ := hp
    rw [sG_n _ _ (show P ≠ N by omega), sG_s] at s2 s3
    obtain ⟨g9, eg9⟩ : ∃ y, y = sG (sG (sG (sG (sG g1 P bp) N bn) P bq) N bn2) P bq2 := ⟨_, rfl⟩
    have w3 : g9.2.2.2 3 = g1.2.2.2 3 := by rw [eg9]; repeat rw [sG_n _ _ (by omega)]
    have w4 : g9.2.2.2 4 = g1.2.2.2 4 := by rw [eg9]; repeat rw [sG_n _ _ (by omega)]
    have wP : g9.2.2.2 P = bq2 := by rw [eg9, sG_s]
    have wN : g9.2.2.2 N = bn2 := by rw [eg9, sG_n _ _ hNP, sG_s]
    have zS : bz bq2 = amS (bv (g.2.2.2 0)) (bv (g.2.2.2 1)) b.toInt := by
      rw [bz, if_pos (by rw [s2, o2]), s3, o3]
      rfl
    have zD : bz bn2 = amD (bv (g.2.2.2 0)) (bv (g.2.2.2 1)) b.toInt := by
      unfold amD bz
      rw [r2, m2, r3, m3]
      by_cases q : bv (g.2.2.2 0) < amX (bv (g.2.2.2 1)) b.toInt
      · rw [if_pos q, if_pos q, if_pos q, if_neg (by decide)]
      · rw [if_neg q, if_neg q, if_neg q, if_pos rfl]
    have hsP : sP g g9 := hs.tr (by rw [eg9]; exact ((((sP_G _ _ (by omega) (by omega)).tr (sP_G _ _ (by omega) (by omega))).tr (sP_G _ _ (by omega) (by omega))).tr (sP_G _ _ (by omega) (by omega))).tr (sP_G _ _ (by omega) (by omega)))
    rw [← eg9] at hU
    refine z_vret hx hb hr hlocks hsz hU ⟨hsP, ?_⟩ d_U_makeAutomorph_104
    rcases hPN with ⟨rfl, rfl, hb⟩ | ⟨rfl, rfl, hb⟩
    · exact ⟨by rw [wP]; exact s1, by rw [w3]; exact hok3, by rw [w4]; exact hok4, by rw [wN]; exact r1, by rw [wP, if_pos hb]; exact zS, by rw [w3]; exact hz3, by rw [w4]; exact hz4, by rw [wN, if_pos hb]; exact zD⟩
    · exact ⟨by rw [wN]; exact r1, by rw [w3]; exact hok3, by rw [w4]; exact hok4, by rw [wP]; exact s1, by rw [wN, if_neg hb]; exact zD, by rw [w3]; exact hz3, by rw [w4]; exact hz4, by rw [wP, if_neg hb]; exact zS⟩
  refine lv_aload_n hx hb d_U_makeAutomorph_0 rfl (lv_at hl 0 rfl) ?_
  refine va_get (D := z.1) (ci := 0) (v := .ref (oA z 3)) (C := R_U) (T := F_U) (N := 11) hx hb hts in_U hown hU.2.1 hU.1 0 rfl rfl 3 (by decide) (hts _ k_U_22) (fun _ h9 => h9) rfl d_U_makeAutomorph_1 ?_
  refine lv_aload_n hx hb d_U_makeAutomorph_4 rfl (lv_at hl 0 rfl) ?_
  refine va_get (D := z.1) (ci := 0) (v := .ref (oA z 1)) (C := R_U) (T := F_U) (N := 11) hx hb hts in_U hown hU.2.1 hU.1 0 rfl rfl 1 (by decide) (hts _ k_U_16) (fun _ h9 => h9) rfl d_U_makeAutomorph_5 ?_
  refine lv_iload_n hx hb d_U_makeAutomorph_8 rfl (lv_at hl 3 rfl) ?_
  refine lv_ineg hx hb d_U_makeAutomorph_9 ?_
  refine lv_topi (fun x9 ex9 => ?_)
  have t9 : x9.toInt = -c0.toInt := by rw [ex9]; exact Jvm.Kit.i32_neg (by omega)
  refine z_callv (z_run (As := [.ref (oA z 1), .int x9]) (rest := []) hx hb hml hown hts hU hN (c_setTimes l z _ g (i := 3) (by decide) (j := 1) (by decide) (by decide) h1 x9) (w_B_setTimes_cw hts k_U_175 rfl rfl ⟨Nat.le_of_ble_eq_true rfl, Nat.le_of_ble_eq_true rfl⟩) (z_recvB hU (by decide)) rfl hl.1 rfl (lv_room (Nat.le_of_ble_eq_true rfl)) d_U_makeAutomorph_10 ⟨Nat.zero_le _, Nat.zero_le _⟩) hU (fun g10 H locs hp hU => ?_)
  obtain ⟨b3, rfl, k1, k2, k3⟩ := hp
  rw [hb1] at k2
  rw [t9] at k3
  refine lv_aload_n hx hb d_U_makeAutomorph_13 rfl (lv_at hl 0 rfl) ?_
  refine va_get (D := z.1) (ci := 0) (v := .ref (oA z 4)) (C := R_U) (T := F_U) (N := 11) hx hb hts in_U hown hU.2.1 hU.1 0 rfl rfl 4 (by decide) (hts _ k_U_25) (fun _ h9 => h9) rfl d_U_makeAutomorph_14 ?_
  refine lv_aload_n hx hb d_U_makeAutomorph_17 rfl (lv_at hl 0 rfl) ?_
  refine va_get (D := z.1) (ci := 0) (v := .ref (oA z 1)) (C := R_U) (T := F_U) (N := 11) hx hb hts in_U hown hU.2.1 hU.1 0 rfl rfl 1 (by decide) (hts _ k_U_16) (fun _ h9 => h9) rfl d_U_makeAutomorph_18 ?_
  refine lv_iload_n hx hb d_U_makeAutomorph_21 rfl (lv_at hl 1 rfl) ?_
  refine z_callv (z_run (As := [.ref (oA z 1), .int a]) (rest := []) hx hb hml hown hts hU hN (c_setTimes l z _ (sG g 3 b3) (i := 4) (by decide) (j := 1) (by decide) (by decide) (by rw [sG_n _ _ (by decide)]; exact h1) a) (w_B_setTimes_cw hts k_U_175 rfl rfl ⟨Nat.le_of_ble_eq_true rfl, Nat.le_of_ble_eq_true rfl⟩) (z_recvB hU (by decide)) rfl hl.1 rfl (lv_room (Nat.le_of_ble_eq_true rfl)) d_U_makeAutomorph_22 ⟨Nat.zero_le _, Nat.zero_le _⟩) hU (fun g22 H locs hp hU => ?_)
  obtain ⟨b4, rfl, m1, m2, m3⟩ := hp
  rw [sG_n _ _ (show (1 : Nat) ≠ 3 by decide)] at m2 m3
  rw [hb1] at m2
  have w3 : (sG (sG g 3 b3) 4 b4).2.2.2 3 = b3 := by rw [sG_n _ _ (by decide), sG_s]
  have w4 : (sG (sG g 3 b3) 4 b4).2.2.2 4 = b4 := sG_s _ _ _
  have z3 : bz b3 = amT (bv (g.2.2.2 1)) (-c0.toInt) := bz_T (by
    rw [k2]
    by_cases q : x9 < 0
    · rw [if_pos q, if_neg (by decide), if_pos]
      rw [Int32.lt_iff_toInt_lt, t9, Int32.toInt_zero] at q
      exact q
    · rw [if_neg q, if_pos rfl, if_neg]
      rw [Int32.lt_iff_toInt_lt, t9, Int32.toInt_zero] at q
      exact q) k3
  have z4 : bz b4 = amT (bv (g.2.2.2 1)) a.toInt := bz_T (by
    rw [m2]
    by_cases q : a < 0
    · rw [if_pos q, if_neg (by decide), if_pos]
      rw [Int32.lt_iff_toInt_lt, Int32.toInt_zero] at q
      exact q
    · rw [if_neg q, if_pos rfl, if_neg]
      rw [Int32.lt_iff_toInt_lt, Int32.toInt_zero] at q
      exact q) m3
  have hs : sP g (sG (sG g 3 b3) 4 b4) := (sP_G g b3 (by decide) (by decide)).tr (sP_G _ b4 (by decide) (by decide))
  refine lv_iload_n hx hb d_U_makeAutomorph_25 rfl (lv_at hl 2 rfl) ?_
  refine lv_if_ge (tgt := 36) hx hb d_U_makeAutomorph_26 (by decide) (fun c26 => ?_) (fun c26 => ?_)
  · have h26 : ¬ b.toInt < 0 := by
      rw [Int32.le_iff_toInt_le, Int32.toInt_zero] at c26
      omega
    refine lv_aload_n hx hb d_U_makeAutomorph_36 rfl (lv_at hl 0 rfl) ?_
    refine va_get (D := z.1) (ci := 0) (v := .ref (oA z 5)) (C := R_U) (T := F_U) (N := 11) hx hb hts in_U hown hU.2.1 hU.1 0 rfl rfl 5 (by decide) (hts _ k_U_28) (fun _ h9 => h9) rfl d_U_makeAutomorph_37 ?_
    refine lv_astore (lv' := [(4, .ref (oA z 5)), (0, .ref (mA z)), (1, .int a), (2, .int b), (3, .int c0)]) hx hb d_U_makeAutomorph_40 hl (by decide) rfl (fun ls hl => ?_)
    refine lv_iload_n hx hb d_U_makeAutomorph_42 rfl (lv_at hl 3 rfl) ?_
    refine lv_if_ge (tgt := 53) hx hb d_U_makeAutomorph_43 (by decide) (fun c43 => ?_) (fun c43 => ?_)
    · refine lv_aload_n hx hb d_U_makeAutomorph_53 rfl (lv_at hl 1 rfl) ?_
      refine va_get (D := z.1) (ci := 0) (v := .ref (oA z 2)) (C := R_U) (T := F_U) (N := 11) hx hb hts in_U hown hU.2.1 hU.1 0 rfl rfl 2 (by decide) (hts _ k_U_19) (fun _ h9 => h9) rfl d_U_makeAutomorph_54 ?_
      refine lv_astore (lv' := [(5, .ref (oA z 2)), (4, .ref (oA z 5)), (0, .ref (mA z)), (1, .int a), (2, .int b), (3, .int c0)]) hx hb d_U_makeAutomorph_57 hl (by decide) rfl (fun ls hl => ?_)
      exact E 5 2 _ _ _ ls (Or.inr ⟨rfl, rfl, h26⟩) hs (by rw [w3]; exact k1) (by rw [w4]; exact m1) (by rw [w3]; exact z3) (by rw [w4]; exact z4) hU (lv_sub hl [2, 3, 4, 5, 1, 0] rfl)
    · exact absurd c26 c43
  · have h26 : b.toInt < 0 := by
      rw [Int32.le_iff_toInt_le, Int32.toInt_zero] at c26
      omega
    refine lv_aload_n hx hb d_U_makeAutomorph_29 rfl (lv_at hl 0 rfl) ?_
    refine va_get (D := z.1) (ci := 0) (v := .ref (oA z 2)) (C := R_U) (T := F_U) (N := 11) hx hb hts in_U hown hU.2.1 hU.1 0 rfl rfl 2 (by decide) (hts _ k_U_19) (fun _ h9 => h9) rfl d_U_makeAutomorph_30 ?_
    refine lv_goto (tgt := 40) hx hb d_U_makeAutomorph_33 (by decide) ?_
    refine lv_astore (lv' := [(4, .ref (oA z 2)), (0, .ref (mA z)), (1, .int a), (2, .int b), (3, .int c0)]) hx hb d_U_makeAutomorph_40 hl (by decide) rfl (fun ls hl => ?_)
    refine lv_iload_n hx hb d_U_makeAutomorph_42 rfl (lv_at hl 3 rfl) ?_
    refine lv_if_ge (tgt := 53) hx hb d_U_makeAutomorph_43 (by decide) (fun c43 => ?_) (fun c43 => ?_)
    · exact absurd c43 c26
    · refine lv_aload_n hx hb d_U_makeAutomorph_46 rfl (lv_at hl 1 rfl) ?_
      refine va_get (D := z.1) (ci := 0) (v := .ref (oA z 5)) (C := R_U) (T := F_U) (N := 11) hx hb hts in_U hown hU.2.1 hU.1 0 rfl rfl 5 (by decide) (hts _ k_U_28) (fun _ h9 => h9) rfl d_U_makeAutomorph_47 ?_
      refine lv_goto (tgt := 57) hx hb d_U_makeAutomorph_50 (by decide) ?_
      refine lv_astore (lv' := [(5, .ref (oA z 5)), (4, .ref (oA z 2)), (0, .ref (mA z)), (1, .int a), (2, .int b), (3, .int c0)]) hx hb d_U_makeAutomorph_57 hl (by decide) rfl (fun ls hl => ?_)
      exact E 2 5 _ _ _ ls (Or.inl ⟨rfl, rfl, h26⟩) hs (by rw [w3]; exact k1) (by rw [w4]; exact m1) (by rw [w3]; exact z3) (by rw [w4]; exact z4) hU (lv_sub hl [2, 3, 4, 5, 1, 0] rfl)
end
section
/-! UnitFinder: the units -/
/-- numbers 0, 1, 6, 7 -/
def nOk (g : St) (t u a b : Nat) : Prop := (bOk (g.2.2.2 0) ∧ (g.2.2.2 0).2.1 = 0 ∧ bv (g.2.2.2 0) = t) ∧ (bOk (g.2.2.2 1) ∧ (g.2.2.2 1).2.1 = 0 ∧ bv (g.2.2.2 1) = u) ∧ (bOk (g.2.2.2 6) ∧ (g.2.2.2 6).2.1 = 0 ∧ bv (g.2.2.2 6) = a) ∧ (bOk (g.2.2.2 7) ∧ (g.2.2.2 7).2.1 = 0 ∧ bv (g.2.2.2 7) = b)
def tB (d : Int) : Nat := if d = -3 then 1 else if d = -4 then 0 else 2
def uB (d : Int) : Nat := if d < -4 then 0 else 1
set_option maxHeartbeats 4000000 in
set_option maxRecDepth 100000 in
theorem c_setUnitBelow (l : Launch) (z : ZZ) (sz : Nat) (g : St) {d : Int32} : Met l y_U_setUnitBelow (zw y_U_setUnitBelow b_U_setUnitBelow 2 none) { frames := 2, cells := 0, slots := 0, locals := 44 } (va_Pc [.ref (mA z), .int d] (zI z g sz)) (va_Qv (fun g2 => g2.1 = g.1 ∧ g2.2.1 = 0 ∧ nOk g2 (tB d.toInt) (uB d.toInt) 0 0) (zO z sz) (zA z sz)) 0 0 (zA z sz) := by
  refine z_ofW (by decide) (Nat.le_of_ble_eq_true rfl) (fun p e s m below meth c hx hb hr hml hown hts hlocks hname hsz hN ls hU hl => ?_)
  have hl : lv_has ls 2 [(0, .ref (mA z)), (1, .int d)] := hl
  have E : ∀ (v : Nat) (g1 : St) (H : Heap) (locs : List Loc) (ls : Array Slot), v < 3 → v = tB d.toInt → g1.1 = g.1 → g1.2.1 = 0 → (bOk (g1.2.2.2 1) ∧ (g1.2.2.2 1).2.1 = 0 ∧ bv (g1.2.2.2 1) = uB d.toInt) ∧ (bOk (g1.2.2.2 6) ∧ (g1.2.2.2 6).2.1 = 0 ∧ bv (g1.2.2.2 6) = 0) ∧ (bOk (g1.2.2.2 7) ∧ (g1.2.2.2 7).2.1 = 0 ∧ bv (g1.2.2.2 7) = 0) → Ws z g1 s.heap H locs s → lv_has ls 2 [(0, .ref (mA z)), (1, .int d)] → W p l e ({ frames := 2, cells := 0, slots := 0, locals := 44 } : Room) s m ([.ref (mA z), .int d] : List Value).toArray below meth c H locs 0 0 (MQ below (va_Qv (fun g2 => g2.1 = g.1 ∧ g2.2.1 = 0 ∧ nOk g2 (tB d.toInt) (uB d.toInt) 0 0) (zO z sz) (zA z sz)) ([.ref (mA z), .int d] : List Value).toArray s 0 0 (zA z sz)) (F0 m 71 ls [.int (nI v), .ref (oA z 0)]) := by
    intro v g1 H locs ls hv3 hv q1 q2 q3 hU hl
    refine z_callv (z_run (As := [.int (nI v)]) (rest := []) hx hb hml hown hts hU hN (c_set l z _ g1 (i := 0) (by decide) (v := v) (by omega)) (w_B_set_cw hts k_U_142 rfl rfl ⟨Nat.le_of_ble_eq_true rfl, Nat.le_of_ble_eq_true rfl⟩) (z_recvB hU (by decide)) rfl hl.1 rfl (lv_room (Nat.le_of_ble_eq_true rfl)) d_U_setUnitBelow_71 ⟨Nat.zero_le _, Nat.zero_le _⟩) hU (fun g71 H locs hp hU => ?_)
    obtain ⟨b0, rfl, k1, k2, k3⟩ := hp
    exact z_vret hx hb hr hlocks hsz hU ⟨q1, q2, ⟨by rw [sG_s]; exact k1, by rw [sG_s]; exact k2, by rw [sG_s, k3, hv]⟩, by rw [sG_n _ _ (by decide)]; exact q3.1, by rw [sG_n _ _ (by decide)]; exact q3.2.1, by rw [sG_n _ _ (by decide)]; exact q3.2.2⟩ d_U_setUnitBelow_74
  have E36 : ∀ (v : Nat) (g1 : St) (H : Heap) (locs : List Loc) (ls : Array Slot), v < 2 → v = uB d.toInt → g1.1 = g.1 → g1.2.1 = 0 → (bOk (g1.2.2.2 6) ∧ (g1.2.2.2 6).2.1 = 0 ∧ bv (g1.2.2.2 6) = 0) ∧ (bOk (g1.2.2.2 7) ∧ (g1.2.2.2 7).2.1 = 0 ∧ bv (g1.2.2.2 7) = 0) → Ws z g1 s.heap H locs s → lv_has ls 2 [(0, .ref (mA z)), (1, .int d)] → W p l e ({ frames := 2, cells := 0, slots := 0, locals := 44 } : Room) s m ([.ref (mA z), .int d] : List Value).toArray below meth c H locs 0 0 (MQ below (va_Qv (fun g2 => g2.1 = g.1 ∧ g2.2.1 = 0 ∧ nOk g2 (tB d.toInt) (uB d.toInt) 0 0) (zO z sz) (zA z sz)) ([.ref (mA z), .int d] : List Value).toArray s 0 0 (zA z sz)) (F0 m 36 ls [.int (nI v), .ref (oA z 1)]) := by
    intro v g1 H locs ls hv3 hv q1 q2 q3 hU hl
    refine z_callv (z_run (As := [.int (nI v)]) (rest := []) hx hb hml hown hts hU hN (c_set l z _ g1 (i := 1) (by decide) (v := v) (by omega)) (w_B_set_cw hts k_U_142 rfl rfl ⟨Nat.le_of_ble_eq_true rfl, Nat.le_of_ble_eq_true rfl⟩) (z_recvB hU (by decide)) rfl hl.1 rfl (lv_room (Nat.le_of_ble_eq_true rfl)) d_U_setUnitBelow_36 ⟨Nat.zero_le _, Nat.zero_le _⟩) hU (fun g36 H locs hp hU => ?_)
    obtain ⟨b1, rfl, k1, k2, k3⟩ := hp
    have q4 : (bOk ((sG g1 1 b1).2.2.2 1) ∧ ((sG g1 1 b1).2.2.2 1).2.1 = 0 ∧ bv ((sG g1 1 b1).2.2.2 1) = uB d.toInt) ∧ (bOk ((sG g1 1 b1).2.2.2 6) ∧ ((sG g1 1 b1).2.2.2 6).2.1 = 0 ∧ bv ((sG g1 1 b1).2.2.2 6) = 0) ∧ (bOk ((sG g1 1 b1).2.2.2 7) ∧ ((sG g1 1 b1).2.2.2 7).2.1 = 0 ∧ bv ((sG g1 1 b1).2.2.2 7) = 0) := ⟨by rw [sG_s]; exact ⟨k1, k2, k3.trans hv⟩, by rw [sG_n _ _ (by decide)]; exact q3.1, by rw [sG_n _ _ (by decide)]; exact q3.2⟩
    refine lv_iload_n hx hb d_U_setUnitBelow_39 rfl (lv_at hl 1 rfl) ?_
    refine lv_bipush (v := (-3)) hx hb d_U_setUnitBelow_40 (by decide) ?_
    refine lv_icmp_ne (tgt := 56) hx hb d_U_setUnitBelow_42 (by decide) (fun c42 => ?_) (fun c42 => ?_)
    · have h42 : ¬ d.toInt = -3 := fun q => c42 (Int32.toInt_inj.mp q)
      refine lv_aload_n hx hb d_U_setUnitBelow_56 rfl (lv_at hl 0 rfl) ?_
      refine va_get (D := z.1) (ci := 0) (v := .ref (oA z 0)) (C := R_U) (T := F_U) (N := 11) hx hb hts in_U hown hU.2.1 hU.1 0 rfl rfl 0 (by decide) (hts _ k_U_10) (fun _ h9 => h9) rfl d_U_setUnitBelow_57 ?_
      refine lv_iload_n hx hb d_U_setUnitBelow_60 rfl (lv_at hl 1 rfl) ?_
      refine lv_bipush (v := (-4)) hx hb d_U_setUnitBelow_61 (by decide) ?_
      refine lv_icmp_ne (tgt := 70) hx hb d_U_setUnitBelow_63 (by decide) (fun c63 => ?_) (fun c63 => ?_)
      · have h63 : ¬ d.toInt = -4 := fun q => c63 (Int32.toInt_inj.mp q)
        refine lv_iconst (v := 2) hx hb d_U_setUnitBelow_70 (by decide) ?_
        exact E 2 (sG g1 1 b1) _ _ ls (by decide) (by rw [tB, if_neg h42, if_neg h63]) q1 q2 q4 hU (lv_sub hl [0, 1] rfl)
      · have h63 : d.toInt = -4 := by rw [c63]; rfl
        refine lv_iconst (v := 0) hx hb d_U_setUnitBelow_66 (by decide) ?_
        refine lv_goto (tgt := 71) hx hb d_U_setUnitBelow_67 (by decide) ?_
        exact E 0 (sG g1 1 b1) _ _ ls (by decide) (by rw [tB, if_neg h42, if_pos h63]) q1 q2 q4 hU (lv_sub hl [0, 1] rfl)
    · have h42 : d.toInt = -3 := by rw [c42]; rfl
      refine lv_aload_n hx hb d_U_setUnitBelow_45 rfl (lv_at hl 0 rfl) ?_
      refine va_get (D := z.1) (ci := 0) (v := .ref (oA z 0)) (C := R_U) (T := F_U) (N := 11) hx hb hts in_U hown hU.2.1 hU.1 0 rfl rfl 0 (by decide) (hts _ k_U_10) (fun _ h9 => h9) rfl d_U_setUnitBelow_46 ?_
      refine lv_iconst (v := 1) hx hb d_U_setUnitBelow_49 (by decide) ?_
      refine z_callv (z_run (As := [.int 1]) (rest := []) hx hb hml hown hts hU hN (c_set l z _ (sG g1 1 b1) (i := 0) (by decide) (v := 1) (by decide)) (w_B_set_cw hts k_U_142 rfl rfl ⟨Nat.le_of_ble_eq_true rfl, Nat.le_of_ble_eq_true rfl⟩) (z_recvB hU (by decide)) rfl hl.1 rfl (lv_room (Nat.le_of_ble_eq_true rfl)) d_U_setUnitBelow_50 ⟨Nat.zero_le _, Nat.zero_le _⟩) hU (fun g50 H locs hp hU => ?_)
      obtain ⟨b0, rfl, r1, r2, r3⟩ := hp
      refine lv_goto (tgt := 74) hx hb d_U_setUnitBelow_53 (by decide) ?_
      exact z_vret hx hb hr hlocks hsz hU ⟨q1, q2, ⟨by rw [sG_s]; exact r1, by rw [sG_s]; exact r2, by rw [sG_s, r3, tB, if_pos h42]⟩, by rw [sG_n _ _ (by decide)]; exact q4.1, by rw [sG_n _ _ (by decide)]; exact q4.2.1, by rw [sG_n _ _ (by decide)]; exact q4.2.2⟩ d_U_setUnitBelow_74
  refine lv_aload_n hx hb d_U_setUnitBelow_0 rfl (lv_at hl 0 rfl) ?_
  refine lv_iconst (v := 0) hx hb d_U_setUnitBelow_1 (by decide) ?_
  refine zp_R hx hb hts hown hU (hts _ k_U_67) d_U_setUnitBelow_2 (fun H locs hU => ?_)
  generalize eg2 : sR g 0 = g2 at hU
  refine lv_aload_n hx hb d_U_setUnitBelow_5 rfl (lv_at hl 0 rfl) ?_
  refine va_get (D := z.1) (ci := 0) (v := .ref (oA z 6)) (C := R_U) (T := F_U) (N := 11) hx hb hts in_U hown hU.2.1 hU.1 0 rfl rfl 6 (by decide) (hts _ k_U_31) (fun _ h9 => h9) rfl d_U_setUnitBelow_6 ?_
  refine lv_iconst (v := 0) hx hb d_U_setUnitBelow_9 (by decide) ?_
  refine z_callv (z_run (As := [.int 0]) (rest := []) hx hb hml hown hts hU hN (c_set l z _ g2 (i := 6) (by decide) (v := 0) (by decide)) (w_B_set_cw hts k_U_142 rfl rfl ⟨Nat.le_of_ble_eq_true rfl, Nat.le_of_ble_eq_true rfl⟩) (z_recvB hU (by decide)) rfl hl.1 rfl (lv_room (Nat.le_of_ble_eq_true rfl)) d_U_setUnitBelow_10 ⟨Nat.zero_le _, Nat.zero_le _⟩) hU (fun g10 H locs hp hU => ?_)
  obtain ⟨b6, rfl, k1, k2, k3⟩ := hp
  refine lv_aload_n hx hb d_U_setUnitBelow_13 rfl (lv_at hl 0 rfl) ?_
  refine va_get (D := z.1) (ci := 0) (v := .ref (oA z 7)) (C := R_U) (T := F_U) (N := 11) hx hb hts in_U hown hU.2.1 hU.1 0 rfl rfl 7 (by decide) (hts _ k_U_34) (fun _ h9 => h9) rfl d_U_setUnitBelow_14 ?_
  refine lv_iconst (v := 0) hx hb d_U_setUnitBelow_17 (by decide) ?_
  refine z_callv (z_run (As := [.int 0]) (rest := []) hx hb hml hown hts hU hN (c_set l z _ (sG g2 6 b6) (i := 7) (by decide) (v := 0) (by decide)) (w_B_set_cw hts k_U_142 rfl rfl ⟨Nat.le_of_ble_eq_true rfl, Nat.le_of_ble_eq_true rfl⟩) (z_recvB hU (by decide)) rfl hl.1 rfl (lv_room (Nat.le_of_ble_eq_true rfl)) d_U_setUnitBelow_18 ⟨Nat.zero_le _, Nat.zero_le _⟩) hU (fun g18 H locs hp hU => ?_)
  obtain ⟨b7, rfl, m1, m2, m3⟩ := hp
  have q1 : (sG (sG g2 6 b6) 7 b7).1 = g.1 := by rw [← eg2]; rfl
  have q2 : (sG (sG g2 6 b6) 7 b7).2.1 = 0 := by rw [← eg2]; rfl
  have q3 : (bOk ((sG (sG g2 6 b6) 7 b7).2.2.2 6) ∧ ((sG (sG g2 6 b6) 7 b7).2.2.2 6).2.1 = 0 ∧ bv ((sG (sG g2 6 b6) 7 b7).2.2.2 6) = 0) ∧ (bOk ((sG (sG g2 6 b6) 7 b7).2.2.2 7) ∧ ((sG (sG g2 6 b6) 7 b7).2.2.2 7).2.1 = 0 ∧ bv ((sG (sG g2 6 b6) 7 b7).2.2.2 7) = 0) := ⟨by rw [sG_n _ _ (by decide), sG_s]; exact ⟨k1, k2, k3⟩, by rw [sG_s]; exact ⟨m1, m2, m3⟩⟩
  refine lv_aload_n hx hb d_U_setUnitBelow_21 rfl (lv_at hl 0 rfl) ?_
  refine va_get (D := z.1) (ci := 0) (v := .ref (oA z 1)) (C := R_U) (T := F_U) (N := 11) hx hb hts in_U hown hU.2.1 hU.1 0 rfl rfl 1 (by decide) (hts _ k_U_16) (fun _ h9 => h9) rfl d_U_setUnitBelow_22 ?_
  refine lv_iload_n hx hb d_U_setUnitBelow_25 rfl (lv_at hl 1 rfl) ?_
  refine lv_bipush (v := (-4)) hx hb d_U_setUnitBelow_26 (by decide) ?_
  refine lv_icmp_lt (tgt := 35) hx hb d_U_setUnitBelow_28 (by decide) (fun c28 => ?_) (fun c28 => ?_)
  · have h28 : d.toInt < -4 := Int32.lt_iff_toInt_lt.mp c28
    refine lv_iconst (v := 0) hx hb d_U_setUnitBelow_35 (by decide) ?_
    exact E36 0 (sG (sG g2 6 b6) 7 b7) _ _ ls (by decide) (by rw [uB, if_pos h28]) q1 q2 q3 hU (lv_sub hl [0, 1] rfl)
  · have h28 : ¬ d.toInt < -4 := fun q => c28 (Int32.lt_iff_toInt_lt.mpr q)
    refine lv_iconst (v := 1) hx hb d_U_setUnitBelow_31 (by decide) ?_
    refine lv_goto (tgt := 36) hx hb d_U_setUnitBelow_32 (by decide) ?_
    exact E36 1 (sG (sG g2 6 b6) 7 b7) _ _ ls (by decide) (by rw [uB, if_neg h28]) q1 q2 q3 hU (lv_sub hl [0, 1] rfl)
set_option maxHeartbeats 4000000 in
set_option maxRecDepth 100000 in
theorem c_countUnits (l : Launch) (z : ZZ) (sz : Nat) (g : St)  : Met l y_U_countUnits (zw y_U_countUnits b_U_countUnits 1 (some .int)) { frames := 0, cells := 0, slots := 0, locals := 0 } (va_Pc [.ref (mA z)] (zI z g sz)) (va_Qi (fun r g2 => g2 = g ∧ r = (if 0 < g.1.toInt then -1 else if g.1.toInt = -3 then 6 else if g.1.toInt = -4 then 4 else 2)) (zO z sz) (zA z sz)) 0 0 (zA z sz) := by
  refine z_ofW (by decide) (Nat.le_of_ble_eq_true rfl) (fun p e s m below meth c hx hb hr hml hown hts hlocks hname hsz hN ls hU hl => ?_)
  have hl : lv_has ls 1 [(0, .ref (mA z))] := hl
  refine lv_aload_n hx hb d_U_countUnits_0 rfl (lv_at hl 0 rfl) ?_
  refine va_get (D := z.1) (ci := 0) (v := .int g.1) (C := R_U) (T := F_U) (N := 11) hx hb hts in_U hown hU.2.1 hU.1 0 rfl rfl 9 (by decide) (hts _ k_U_63) (fun _ h9 => h9) rfl d_U_countUnits_1 ?_
  refine lv_topi (fun x1 ex1 => ?_)
  refine lv_if_le (tgt := 9) hx hb d_U_countUnits_4 (by decide) (fun c4 => ?_) (fun c4 => ?_)
  · have h4 : ¬ 0 < g.1.toInt := by
      rw [Int32.le_iff_toInt_le, Int32.toInt_zero, ex1] at c4
      exact Int.not_lt.mpr c4
    refine lv_aload_n hx hb d_U_countUnits_9 rfl (lv_at hl 0 rfl) ?_
    refine va_get (D := z.1) (ci := 0) (v := .int g.1) (C := R_U) (T := F_U) (N := 11) hx hb hts in_U hown hU.2.1 hU.1 0 rfl rfl 9 (by decide) (hts _ k_U_63) (fun _ h9 => h9) rfl d_U_countUnits_10 ?_
    refine lv_topi (fun x10 ex10 => ?_)
    refine lv_bipush (v := (-3)) hx hb d_U_countUnits_13 (by decide) ?_
    refine lv_icmp_ne (tgt := 21) hx hb d_U_countUnits_15 (by decide) (fun c15 => ?_) (fun c15 => ?_)
    · have h15 : ¬ g.1.toInt = -3 := fun q => c15 (by rw [ex10]; exact Int32.toInt_inj.mp q)
      refine lv_aload_n hx hb d_U_countUnits_21 rfl (lv_at hl 0 rfl) ?_
      refine va_get (D := z.1) (ci := 0) (v := .int g.1) (C := R_U) (T := F_U) (N := 11) hx hb hts in_U hown hU.2.1 hU.1 0 rfl rfl 9 (by decide) (hts _ k_U_63) (fun _ h9 => h9) rfl d_U_countUnits_22 ?_
      refine lv_topi (fun x22 ex22 => ?_)
      refine lv_bipush (v := (-4)) hx hb d_U_countUnits_25 (by decide) ?_
      refine lv_icmp_ne (tgt := 34) hx hb d_U_countUnits_27 (by decide) (fun c27 => ?_) (fun c27 => ?_)
      · have h27 : ¬ g.1.toInt = -4 := fun q => c27 (by rw [ex22]; exact Int32.toInt_inj.mp q)
        refine lv_iconst (v := 2) hx hb d_U_countUnits_34 (by decide) ?_
        exact z_iret hx hb hr hlocks hsz hU ⟨rfl, by rw [if_neg h4, if_neg h15, if_neg h27]⟩ d_U_countUnits_35
      · have h27 : g.1.toInt = -4 := by rw [← ex22, c27]; rfl
        refine lv_iconst (v := 4) hx hb d_U_countUnits_30 (by decide) ?_
        refine lv_goto (tgt := 35) hx hb d_U_countUnits_31 (by decide) ?_
        exact z_iret hx hb hr hlocks hsz hU ⟨rfl, by rw [if_neg h4, if_neg h15, if_pos h27]⟩ d_U_countUnits_35
    · have h15 : g.1.toInt = -3 := by rw [← ex10, c15]; rfl
      refine lv_bipush (v := 6) hx hb d_U_countUnits_18 (by decide) ?_
      exact z_iret hx hb hr hlocks hsz hU ⟨rfl, by rw [if_neg h4, if_pos h15]⟩ d_U_countUnits_20
  · have h4 : 0 < g.1.toInt := by
      rw [Int32.le_iff_toInt_le, Int32.toInt_zero, ex1] at c4
      exact Int.not_le.mp c4
    refine lv_iconst (v := (-1)) hx hb d_U_countUnits_7 (by decide) ?_
    exact z_iret hx hb hr hlocks hsz hU ⟨rfl, by rw [if_pos h4]⟩ d_U_countUnits_8
end
section
/-! UnitFinder: the walk along the ring -/
/-- steps, u and the number before it, as the class walks: at most f steps more -/
def wkS (D r : Nat) : Nat → Nat → Nat → Nat → Nat → Nat → Nat × Nat × Nat
  | 0, _, _, k, L, B => (k, L, B)
  | f + 1, b, c, k, L, B => if c ≤ 1 then (k, L, B) else wkS D r f (nxB r b c) (nxC D r b c) (k + 1) (((b + r) / (2 * c) * L + B) % MM) L
/-- the greatest b of the ring's first form -/
def fB (D : Nat) : Nat := rt D - (if (rt D + D) % 2 = 0 then 0 else 1)
def fC (D : Nat) : Nat := (D - fB D * fB D) / 4
def wk (D : Nat) : Nat × Nat × Nat := wkS D (rt D) 999999 (fB D) (fC D) 1 1 0
/-- D above 0 that can be taken -/
def dOk (D : Nat) : Prop := D ≤ 1048576 ∧ 2 ≤ rt D ∧ rt D ≤ 1024 ∧ rt D * rt D < D ∧ D < (rt D + 1) * (rt D + 1) ∧ D % 4 ≤ 1
theorem tk_dOk {D : Nat} (h : tk (D : Int)) (h0 : 0 < D) : dOk D := by
  obtain ⟨a1, a2, a3, a4⟩ := h
  obtain ⟨b1, b2⟩ := rt_spec (d := (D : Int)) (by omega) a2
  have c1 : rt D * rt D ≤ D := Int.ofNat_le.mp b1
  have c2 : D < (rt D + 1) * (rt D + 1) := Int.ofNat_lt.mp b2
  have c3 : rt D * rt D ≠ D := fun q => a4 (by rw [q])
  refine ⟨by omega, ?_, ?_, by omega, c2, by omega⟩
  · rcases Nat.lt_or_ge (rt D) 2 with q | q
    · exfalso
      rcases (show rt D = 0 ∨ rt D = 1 by omega) with w | w
      · rw [w] at c2; omega
      · rw [w] at c2 c3; omega
    · exact q
  · rcases Nat.lt_or_ge 1024 (rt D) with q | q
    · exfalso
      have := Nat.mul_le_mul (show 1025 ≤ rt D by omega) (show 1025 ≤ rt D by omega)
      omega
    · exact q
theorem sq_mod4 (b : Nat) : b * b % 4 = b % 2 := by
  have h : b * b % 4 = (b % 4) * (b % 4) % 4 := Nat.mul_mod b b 4
  rcases (show b % 4 = 0 ∨ b % 4 = 1 ∨ b % 4 = 2 ∨ b % 4 = 3 by omega) with q | q | q | q <;> rw [q] at h <;> omega
theorem first_red {D : Nat} (h : dOk D) : Red D (rt D) 1 (fB D) (fC D) := by
  obtain ⟨a1, a2, a3, a4, a5, a6⟩ := h
  have hb : fB D ≤ rt D := Nat.sub_le _ _
  have hb2 : rt D ≤ fB D + 1 := by unfold fB; split <;> omega
  have hb3 : fB D % 2 = D % 2 := by unfold fB; split <;> omega
  have hbb : fB D * fB D ≤ rt D * rt D := Nat.mul_le_mul hb hb
  have h4 := sq_mod4 (fB D)
  have e : D = fB D * fB D + 4 * (1 * fC D) := by
    unfold fC
    omega
  obtain ⟨f1, f2⟩ := red_flip a4 a5 hb e (by omega) (by omega)
  exact ⟨hb, Nat.le_refl 1, by omega, e, f1, f2⟩
set_option maxHeartbeats 4000000 in
set_option maxRecDepth 100000 in
theorem c_walkToOne (l : Launch) (z : ZZ) (sz : Nat) (g : St) {D : Nat} (hd : dOk D) : Met l y_U_walkToOne (zw y_U_walkToOne b_U_walkToOne 8 (some .int)) { frames := 3, cells := 0, slots := 0, locals := 78 } (va_Pc [.ref (mA z), .int (nI D)] (zI z g sz)) (va_Qi (fun x g2 => sU g g2 ∧ rOk g2 ∧ x = nI (wk D).1 ∧ bv (g2.2.2.2 8) = (wk D).2.1 ∧ bv (g2.2.2.2 9) = (fB D * (wk D).2.1 + 2 * (wk D).2.2) % MM) (zO z sz) (zA z sz)) 0 0 (zA z sz) := by
  refine z_ofW (by decide) (Nat.le_of_ble_eq_true rfl) (fun p e s m below meth c hx hb hr hml hown hts hlocks hname hsz hN ls hU hl => ?_)
  have hl : lv_has ls 8 [(0, .ref (mA z)), (1, .int (nI D))] := hl
  have hred := first_red hd
  obtain ⟨a1, a2, a3, a4, a5, a6⟩ := hd
  obtain ⟨r, er⟩ : ∃ y, y = rt D := ⟨_, rfl⟩
  obtain ⟨b0, eb0⟩ : ∃ y, y = fB D := ⟨_, rfl⟩
  obtain ⟨c00, ec0⟩ : ∃ y, y = fC D := ⟨_, rfl⟩
  rw [← er, ← eb0, ← ec0] at hred
  have ewk : wk D = wkS D r 999999 b0 c00 1 1 0 := by rw [wk, ← er, ← eb0, ← ec0]
  rw [← er] at a2 a3 a4 a5
  have E : ∀ (k L B b c7 : Nat) (g1 : St) (H : Heap) (locs : List Loc) (ls : Array Slot), wk D = (k, L, B) → sU g g1 → rOk g1 → recL g1 = L → recB g1 = B → Ws z g1 s.heap H locs s → lv_has ls 8 [(0, .ref (mA z)), (1, .int (nI D)), (2, .int (nI r)), (3, .int (nI b0)), (4, .int (nI b)), (5, .int (nI c7)), (6, .int (nI k))] → W p l e ({ frames := 3, cells := 0, slots := 0, locals := 78 } : Room) s m ([.ref (mA z), .int (nI D)] : List Value).toArray below meth c H locs 0 0 (MQ below (va_Qi (fun x g2 => sU g g2 ∧ rOk g2 ∧ x = nI (wk D).1 ∧ bv (g2.2.2.2 8) = (wk D).2.1 ∧ bv (g2.2.2.2 9) = (fB D * (wk D).2.1 + 2 * (wk D).2.2) % MM) (zO z sz) (zA z sz)) ([.ref (mA z), .int (nI D)] : List Value).toArray s 0 0 (zA z sz)) (F0 m 102 ls []) := by
    intro k L B b c7 g1 H locs ls hw hs hok hL hB hU hl
    refine lv_aload_n hx hb d_U_walkToOne_102 rfl (lv_at hl 0 rfl) ?_
    refine va_get (D := z.1) (ci := 0) (v := .ref (kA z)) (C := R_U) (T := F_U) (N := 11) hx hb hts in_U hown hU.2.1 hU.1 0 rfl rfl 8 (by decide) (hts _ k_U_40) (fun _ h9 => h9) rfl d_U_walkToOne_103 ?_
    refine lv_iload_n hx hb d_U_walkToOne_106 rfl (lv_at hl 3 rfl) ?_
    refine z_callv (z_run (As := [.int (nI b0)]) (rest := []) hx hb hml hown hts hU hN (c_finish l z _ g1 hok (A := b0) (by have := hred.1; omega)) (w_K_finish_cw hts k_U_172 rfl rfl ⟨Nat.le_of_ble_eq_true rfl, Nat.le_of_ble_eq_true rfl⟩) (z_recvK hU) rfl hl.1 rfl (lv_room (Nat.le_of_ble_eq_true rfl)) d_U_walkToOne_107 ⟨Nat.zero_le _, Nat.zero_le _⟩) hU (fun g107 H locs hp hU => ?_)
    obtain ⟨k1, k2, k3, k4⟩ := hp
    refine lv_iload hx hb d_U_walkToOne_110 (lv_at hl 6 rfl) ?_
    exact z_iret hx hb hr hlocks hsz hU ⟨hs.tr k1, k2, by rw [hw], by rw [hw, k3, hL], by rw [hw, k4, hL, hB, eb0]⟩ d_U_walkToOne_112
  have K : ∀ (f A b c7 k L B : Nat) (g1 : St) (H : Heap) (locs : List Loc) (ls : Array Slot), k + f = 1000000 → Red D r A b c7 → wk D = wkS D r f b c7 k L B → sU g g1 → rOk g1 → recL g1 = L → recB g1 = B → Ws z g1 s.heap H locs s → lv_has ls 8 [(0, .ref (mA z)), (1, .int (nI D)), (2, .int (nI r)), (3, .int (nI b0)), (4, .int (nI b)), (5, .int (nI c7)), (6, .int (nI k))] → W p l e ({ frames := 3, cells := 0, slots := 0, locals := 78 } : Room) s m ([.ref (mA z), .int (nI D)] : List Value).toArray below meth c H locs 0 0 (MQ below (va_Qi (fun x g2 => sU g g2 ∧ rOk g2 ∧ x = nI (wk D).1 ∧ bv (g2.2.2.2 8) = (wk D).2.1 ∧ bv (g2.2.2.2 9) = (fB D * (wk D).2.1 + 2 * (wk D).2.2) % MM) (zO z sz) (zA z sz)) ([.ref (mA z), .int (nI D)] : List Value).toArray s 0 0 (zA z sz)) (F0 m 37 ls []) := by
    intro f
    induction f with
    | zero =>
      intro A b c7 k L B g1 H locs ls hk hR hw hs hok hL hB hU hl
      have hk : k = 1000000 := by omega
      refine lv_iload hx hb d_U_walkToOne_37 (lv_at hl 5 rfl) ?_
      refine lv_iconst (v := 1) hx hb d_U_walkToOne_39 (by decide) ?_
      refine lv_icmp_le (tgt := 102) hx hb d_U_walkToOne_40 (by decide) (fun c40 => ?_) (fun c40 => ?_)
      · exact E k L B b c7 g1 _ _ ls hw hs hok hL hB hU hl
      · refine lv_iload hx hb d_U_walkToOne_43 (lv_at hl 6 rfl) ?_
        refine lv_ldc (v := 1000000) hx hb hown (hts _ k_U_168) d_U_walkToOne_45 ?_
        refine lv_icmp_ge (tgt := 102) hx hb d_U_walkToOne_47 (by decide) (fun c47 => ?_) (fun c47 => ?_)
        · exact E k L B b c7 g1 _ _ ls hw hs hok hL hB hU hl
        · exact absurd (by rw [hk]; exact Int32.le_refl _) c47
    | succ f ih =>
      intro A b c7 k L B g1 H locs ls hk hR hw hs hok hL hB hU hl
      have hNx := hR.next a4 a5
      obtain ⟨hb2, hA, hc, e, h1, h2⟩ := id hR
      obtain ⟨n1, n2, n3, n4, n5⟩ := nx_b hb2 hc h1 h2
      obtain ⟨m1, m2⟩ := nx_c a4 hR
      refine lv_iload hx hb d_U_walkToOne_37 (lv_at hl 5 rfl) ?_
      refine lv_iconst (v := 1) hx hb d_U_walkToOne_39 (by decide) ?_
      refine lv_icmp_le (tgt := 102) hx hb d_U_walkToOne_40 (by decide) (fun c40 => ?_) (fun c40 => ?_)
      · have h40 : c7 ≤ 1 := (nI_leI (a := c7) (b := 1) (by omega) (by decide)).mp c40
        rw [wkS, if_pos h40] at hw
        exact E k L B b c7 g1 _ _ ls hw hs hok hL hB hU hl
      · have h40 : ¬ c7 ≤ 1 := fun q => c40 ((nI_leI (a := c7) (b := 1) (by omega) (by decide)).mpr q)
        rw [wkS, if_neg h40] at hw
        refine lv_iload hx hb d_U_walkToOne_43 (lv_at hl 6 rfl) ?_
        refine lv_ldc (v := 1000000) hx hb hown (hts _ k_U_168) d_U_walkToOne_45 ?_
        refine lv_icmp_ge (tgt := 102) hx hb d_U_walkToOne_47 (by decide) (fun c47 => ?_) (fun c47 => ?_)
        · exact absurd c47 (nI_ge (a := k) (b := 1000000) (by omega) (by decide))
        · refine lv_iload hx hb d_U_walkToOne_50 (lv_at hl 4 rfl) ?_
          refine lv_iload_n hx hb d_U_walkToOne_52 rfl (lv_at hl 2 rfl) ?_
          refine lv_iadd hx hb d_U_walkToOne_53 ?_
          refine lv_topi (fun x53 ex53 => ?_)
          refine lv_iconst (v := 2) hx hb d_U_walkToOne_54 (by decide) ?_
          refine lv_iload hx hb d_U_walkToOne_55 (lv_at hl 5 rfl) ?_
          refine lv_imul hx hb d_U_walkToOne_57 ?_
          refine lv_topi (fun x57 ex57 => ?_)
          have e53 : x53 = nI (b + r) := by rw [ex53, nI_add]
          have e57 : x57 = nI (2 * c7) := by rw [ex57]; exact pk_mul 2 c7
          have hne58 : ¬ x57 = 0 := by rw [e57]; exact nI_ne0 (by omega) (by omega)
          refine lv_idiv hx hb d_U_walkToOne_58 hne58 ?_
          refine lv_topi (fun x58 ex58 => ?_)
          refine lv_istore (lv' := [(7, .int x58), (0, .ref (mA z)), (1, .int (nI D)), (2, .int (nI r)), (3, .int (nI b0)), (4, .int (nI b)), (5, .int (nI c7)), (6, .int (nI k))]) hx hb d_U_walkToOne_59 hl (by decide) rfl (fun ls hl => ?_)
          refine lv_aload_n hx hb d_U_walkToOne_61 rfl (lv_at hl 1 rfl) ?_
          refine va_get (D := z.1) (ci := 0) (v := .ref (kA z)) (C := R_U) (T := F_U) (N := 11) hx hb hts in_U hown hU.2.1 hU.1 0 rfl rfl 8 (by decide) (hts _ k_U_40) (fun _ h9 => h9) rfl d_U_walkToOne_62 ?_
          refine lv_iload hx hb d_U_walkToOne_65 (lv_at hl 0 rfl) ?_
          have e58 : x58 = nI ((b + r) / (2 * c7)) := by rw [ex58, e53, e57]; exact pk_div (by omega) (by omega) (by omega)
          obtain ⟨q, eq⟩ : ∃ y, y = (b + r) / (2 * c7) := ⟨_, rfl⟩
          rw [← eq] at e58
          have hq : q ≤ 2048 := by rw [eq]; exact Nat.le_trans (Nat.div_le_self _ _) (by omega)
          have hqX : 2 * c7 * q ≤ b + r := by rw [eq]; exact Nat.mul_div_le _ _
          rw [e58] at hl ⊢
          refine z_callv (z_run (As := [.int (nI q)]) (rest := []) hx hb hml hown hts hU hN (c_step l z _ g1 hok (Q := q) (by omega)) (w_K_step_cw hts k_U_169 rfl rfl ⟨Nat.le_of_ble_eq_true rfl, Nat.le_of_ble_eq_true rfl⟩) (z_recvK hU) rfl hl.1 rfl (lv_room (Nat.le_of_ble_eq_true rfl)) d_U_walkToOne_67 ⟨Nat.zero_le _, Nat.zero_le _⟩) hU (fun g67 H locs hp hU => ?_)
          obtain ⟨k1, k2, k3, k4⟩ := hp
          refine lv_iconst (v := 2) hx hb d_U_walkToOne_70 (by decide) ?_
          refine lv_iload hx hb d_U_walkToOne_71 (lv_at hl 6 rfl) ?_
          refine lv_imul hx hb d_U_walkToOne_73 ?_
          refine lv_topi (fun x73 ex73 => ?_)
          refine lv_iload hx hb d_U_walkToOne_74 (lv_at hl 0 rfl) ?_
          refine lv_imul hx hb d_U_walkToOne_76 ?_
          refine lv_topi (fun x76 ex76 => ?_)
          refine lv_iload hx hb d_U_walkToOne_77 (lv_at hl 5 rfl) ?_
          refine lv_isub hx hb d_U_walkToOne_79 ?_
          refine lv_topi (fun x79 ex79 => ?_)
          refine lv_istore (lv' := [(4, .int x79), (7, .int (nI q)), (0, .ref (mA z)), (1, .int (nI D)), (2, .int (nI r)), (3, .int (nI b0)), (5, .int (nI c7)), (6, .int (nI k))]) hx hb d_U_walkToOne_80 hl (by decide) rfl (fun ls hl => ?_)
          refine lv_iload_n hx hb d_U_walkToOne_82 rfl (lv_at hl 3 rfl) ?_
          refine lv_iload hx hb d_U_walkToOne_83 (lv_at hl 0 rfl) ?_
          refine lv_iload hx hb d_U_walkToOne_85 (lv_at hl 0 rfl) ?_
          refine lv_imul hx hb d_U_walkToOne_87 ?_
          refine lv_topi (fun x87 ex87 => ?_)
          refine lv_isub hx hb d_U_walkToOne_88 ?_
          refine lv_topi (fun x88 ex88 => ?_)
          refine lv_iconst (v := 4) hx hb d_U_walkToOne_89 (by decide) ?_
          refine lv_iload hx hb d_U_walkToOne_90 (lv_at hl 6 rfl) ?_
          refine lv_imul hx hb d_U_walkToOne_92 ?_
          refine lv_topi (fun x92 ex92 => ?_)
          have e73 : x73 = nI (2 * c7) := by rw [ex73]; exact pk_mul 2 c7
          have e76 : x76 = nI (2 * c7 * q) := by rw [ex76, e73]; exact pk_mul _ _
          have eX : nxB r b c7 = 2 * c7 * q - b := by rw [eq]; rfl
          have e79 : x79 = nI (nxB r b c7) := by
            rw [ex79, e76, eX]
            exact pk_sub (by rw [eq]; exact n1)
          have hsq : nxB r b c7 * nxB r b c7 ≤ D := by omega
          have e87 : x87 = nI (nxB r b c7 * nxB r b c7) := by rw [ex87, e79]; exact pk_mul _ _
          have e88 : x88 = nI (D - nxB r b c7 * nxB r b c7) := by rw [ex88, e87]; exact pk_sub hsq
          have e92 : x92 = nI (4 * c7) := by rw [ex92]; exact pk_mul 4 c7
          have hne93 : ¬ x92 = 0 := by rw [e92]; exact nI_ne0 (by omega) (by omega)
          refine lv_idiv hx hb d_U_walkToOne_93 hne93 ?_
          refine lv_topi (fun x93 ex93 => ?_)
          refine lv_istore (lv' := [(5, .int x93), (4, .int x79), (7, .int (nI q)), (0, .ref (mA z)), (1, .int (nI D)), (2, .int (nI r)), (3, .int (nI b0)), (6, .int (nI k))]) hx hb d_U_walkToOne_94 hl (by decide) rfl (fun ls hl => ?_)
          obtain ⟨x96, ex96⟩ : ∃ y : Int32, y = (nI k) + Int32.ofInt 1 := ⟨_, rfl⟩
          refine lv_iinc (v := x96) (lv' := [(6, .int x96), (5, .int x93), (4, .int x79), (7, .int (nI q)), (0, .ref (mA z)), (1, .int (nI D)), (2, .int (nI r)), (3, .int (nI b0))]) hx hb d_U_walkToOne_96 hl (k := 7) rfl (by rw [ex96]) (by decide) rfl (fun ls hl => ?_)
          refine lv_goto (tgt := 37) hx hb d_U_walkToOne_99 (by decide) ?_
          have e93 : x93 = nI (nxC D r b c7) := by rw [ex93, e88, e92]; exact pk_div (by omega) (by omega) (by omega)
          rw [e93, e79, ex96, show Int32.ofInt 1 = 1 from rfl, nI_1] at hl
          exact ih c7 (nxB r b c7) (nxC D r b c7) (k + 1) _ _ g67 _ _ ls (by omega) hNx hw (hs.tr k1) k2 (by rw [k3, hL, hB, eq]) (by rw [k4, hL]) hU (lv_sub hl [4, 5, 6, 7, 2, 1, 0] rfl)
  refine lv_iload_n hx hb d_U_walkToOne_0 rfl (lv_at hl 1 rfl) ?_
  refine pr_call (As := [.int (nI D)]) (rest := []) hx hb hml hown hts (c_rootOf l (nI D)) (w_U_rootOf_cw hts k_U_128 rfl rfl ⟨Nat.le_of_ble_eq_true rfl, Nat.le_of_ble_eq_true rfl⟩) rfl hl.1 rfl (lv_room (Nat.le_of_ble_eq_true rfl)) d_U_walkToOne_1 ⟨Nat.zero_le _, Nat.zero_le _⟩ ?_
  refine lv_topi (fun x1 ex1 => ?_)
  have e1 : x1 = nI r := by rw [ex1, nI_toInt (by omega), er]
  rw [e1]
  refine lv_istore_n (lv' := [(2, .int (nI r)), (0, .ref (mA z)), (1, .int (nI D))]) hx hb d_U_walkToOne_4 rfl hl (by decide) rfl (fun ls hl => ?_)
  refine lv_iload_n hx hb d_U_walkToOne_5 rfl (lv_at hl 0 rfl) ?_
  refine lv_iload_n hx hb d_U_walkToOne_6 rfl (lv_at hl 0 rfl) ?_
  refine lv_iload_n hx hb d_U_walkToOne_7 rfl (lv_at hl 2 rfl) ?_
  refine lv_isub hx hb d_U_walkToOne_8 ?_
  refine lv_topi (fun x8 ex8 => ?_)
  refine lv_iconst (v := 1) hx hb d_U_walkToOne_9 (by decide) ?_
  refine lv_iand hx hb d_U_walkToOne_10 ?_
  refine lv_topi (fun x10 ex10 => ?_)
  refine lv_isub hx hb d_U_walkToOne_11 ?_
  refine lv_topi (fun x11 ex11 => ?_)
  refine lv_istore_n (lv' := [(3, .int x11), (2, .int (nI r)), (0, .ref (mA z)), (1, .int (nI D))]) hx hb d_U_walkToOne_12 rfl hl (by decide) rfl (fun ls hl => ?_)
  refine lv_iload_n hx hb d_U_walkToOne_13 rfl (lv_at hl 0 rfl) ?_
  refine lv_istore (lv' := [(4, .int x11), (3, .int x11), (2, .int (nI r)), (0, .ref (mA z)), (1, .int (nI D))]) hx hb d_U_walkToOne_14 hl (by decide) rfl (fun ls hl => ?_)
  refine lv_iload_n hx hb d_U_walkToOne_16 rfl (lv_at hl 4 rfl) ?_
  refine lv_iload hx hb d_U_walkToOne_17 (lv_at hl 0 rfl) ?_
  refine lv_iload hx hb d_U_walkToOne_19 (lv_at hl 0 rfl) ?_
  refine lv_imul hx hb d_U_walkToOne_21 ?_
  refine lv_topi (fun x21 ex21 => ?_)
  refine lv_isub hx hb d_U_walkToOne_22 ?_
  refine lv_topi (fun x22 ex22 => ?_)
  refine lv_iconst (v := 4) hx hb d_U_walkToOne_23 (by decide) ?_
  have t8 : x8.toInt = (r : Int) - D := by rw [ex8, Jvm.Kit.i32_sub] <;> rw [nI_toInt (by omega), nI_toInt (by omega)] <;> omega
  have t10 : x10.toInt = ((r : Int) - D) % 2 := by rw [ex10, ← t8]; exact Jvm.Kit.i32_mask x8 1 (k := 1) (by decide) (by decide)
  have e11 : x11 = nI b0 := by
    apply Int32.toInt_inj.mp
    rw [ex11, Jvm.Kit.i32_sub, nI_toInt (by omega), nI_toInt (by have := hred.1; omega), t10, eb0, fB, ← er]
    · split <;> omega
    · rw [nI_toInt (by omega), t10]; omega
    · rw [nI_toInt (by omega), t10]; omega
  have hb9 := hred.1
  have hbb : b0 * b0 ≤ r * r := Nat.mul_le_mul hb9 hb9
  have e21 : x21 = nI (b0 * b0) := by rw [ex21, e11]; exact pk_mul _ _
  have e22 : x22 = nI (D - b0 * b0) := by rw [ex22, e21]; exact pk_sub (by omega)
  have hne24 : ¬ (4 : Int32) = 0 := by decide
  refine lv_idiv hx hb d_U_walkToOne_24 hne24 ?_
  refine lv_topi (fun x24 ex24 => ?_)
  refine lv_istore (lv' := [(5, .int x24), (4, .int x11), (3, .int x11), (2, .int (nI r)), (0, .ref (mA z)), (1, .int (nI D))]) hx hb d_U_walkToOne_25 hl (by decide) rfl (fun ls hl => ?_)
  refine lv_iconst (v := 1) hx hb d_U_walkToOne_27 (by decide) ?_
  refine lv_istore (lv' := [(6, .int 1), (5, .int x24), (4, .int x11), (3, .int x11), (2, .int (nI r)), (0, .ref (mA z)), (1, .int (nI D))]) hx hb d_U_walkToOne_28 hl (by decide) rfl (fun ls hl => ?_)
  refine lv_aload_n hx hb d_U_walkToOne_30 rfl (lv_at hl 5 rfl) ?_
  refine va_get (D := z.1) (ci := 0) (v := .ref (kA z)) (C := R_U) (T := F_U) (N := 11) hx hb hts in_U hown hU.2.1 hU.1 0 rfl rfl 8 (by decide) (hts _ k_U_40) (fun _ h9 => h9) rfl d_U_walkToOne_31 ?_
  have e24 : x24 = nI c00 := by
    rw [ex24, e22, ec0, fC, ← eb0]
    exact pk_div (d := 4) (by omega) (by decide) (by decide)
  rw [e24, e11] at hl
  refine z_callv (z_run (As := []) (rest := []) hx hb hml hown hts hU hN (c_start l z _ g) (w_K_start_cw hts k_U_165 rfl rfl ⟨Nat.le_of_ble_eq_true rfl, Nat.le_of_ble_eq_true rfl⟩) (z_recvK hU) rfl hl.1 rfl (lv_room (Nat.le_of_ble_eq_true rfl)) d_U_walkToOne_34 ⟨Nat.zero_le _, Nat.zero_le _⟩) hU (fun g34 H locs hp hU => ?_)
  obtain ⟨k1, k2, k3, k4⟩ := hp
  exact K 999999 1 b0 c00 1 1 0 g34 _ _ ls (by decide) hred ewk k1 k2 k3 k4 hU (lv_sub hl [5, 6, 4, 3, 2, 1, 0] rfl)
end
section
/-! UnitFinder: copies, the unit above 0, become -/
theorem bOk_eq {b b2 : BS} {n : Nat} (hn : n ≤ 512) (h1 : b2.1 = nI n) (h : b.1 = b2.1) (h2 : b.2.1 = b2.2.1) (h3 : ∀ q, q < n → b.2.2 q = b2.2.2 q) (hok : bOk b2) : bOk b ∧ bv b = bv b2 := by
  obtain ⟨m, hm, hm1, hbel, htop⟩ := hok
  have e : m = n := (nI_eq (by omega) (by omega)).mp (by rw [← hm1, ← h1])
  subst e
  refine ⟨⟨m, hm, h.trans hm1, by rw [h2]; exact hbel, ?_⟩, ?_⟩
  · rcases htop with q | q
    · exact Or.inl q
    · rcases Nat.eq_zero_or_pos m with w | w
      · exact Or.inl w
      · exact Or.inr (by rw [h3 _ (by omega)]; exact q)
  · rw [bv_of hm (h.trans hm1), bv_of hm hm1]
    exact vl_congr h3
set_option maxHeartbeats 4000000 in
set_option maxRecDepth 100000 in
theorem c_copy (l : Launch) (z : ZZ) (sz : Nat) (g : St) {i j : Nat} (hi : i < 10) (hj : j < 10) (hij : j ≠ i) (hok : bOk (g.2.2.2 j)) : Met l y_B_copy (zw y_B_copy b_B_copy 2 none) { frames := 1, cells := 0, slots := 0, locals := 40 } (va_Pc [.ref (oA z i), .ref (oA z j)] (zI z g sz)) (va_Qv (fun g2 => ∃ b, g2 = sG g i b ∧ bOk b ∧ b.2.1 = (g.2.2.2 j).2.1 ∧ bv b = bv (g.2.2.2 j)) (zO z sz) (zA z sz)) 0 0 (zA z sz) := by
  refine z_ofW (by decide) (Nat.le_of_ble_eq_true rfl) (fun p e s m below meth c hx hb hr hml hown hts hlocks hname hsz hN ls hU hl => ?_)
  have hl : lv_has ls 2 [(0, .ref (oA z i)), (1, .ref (oA z j))] := hl
  obtain ⟨n, hn, hn1, hbel, htop⟩ := id hok
  have hbo5 : ∀ v : Int32, v = (g.2.2.2 j).2.1 → (v = 0 ∨ v = 1) := fun v hv => by rw [hv]; exact hbel
  refine lv_aload_n hx hb d_B_copy_0 rfl (lv_at hl 0 rfl) ?_
  refine lv_aload_n hx hb d_B_copy_1 rfl (lv_at hl 1 rfl) ?_
  refine va_get (D := z.1) (ci := 2) (v := .int ((g.2.2.2 j).2.1)) (C := R_B) (T := F_B) (N := 3) hx hb hts in_B hown hU.2.1 hU.1 (2 + 2 * j) (uw_o z g hj) rfl 2 (by decide) (hts _ k_B_15) (fun _ h9 => h9) rfl d_B_copy_2 ?_
  refine lv_topi (fun x2 ex2 => ?_)
  have hbo5 := hbo5 x2 ex2
  refine zp_B hx hb hts hown hU hi (hts _ k_B_15) hbo5 d_B_copy_5 (fun H locs hU => ?_)
  generalize eg5 : sG g i ((g.2.2.2 i).1, x2, (g.2.2.2 i).2.2) = g5 at hU
  refine lv_aload_n hx hb d_B_copy_8 rfl (lv_at hl 0 rfl) ?_
  refine lv_aload_n hx hb d_B_copy_9 rfl (lv_at hl 1 rfl) ?_
  refine va_get (D := z.1) (ci := 2) (v := .int ((g5.2.2.2 j).1)) (C := R_B) (T := F_B) (N := 3) hx hb hts in_B hown hU.2.1 hU.1 (2 + 2 * j) (uw_o z g5 hj) rfl 1 (by decide) (hts _ k_B_23) (fun _ h9 => h9) rfl d_B_copy_10 ?_
  refine lv_topi (fun x10 ex10 => ?_)
  refine zp_L hx hb hts hown hU hi (hts _ k_B_23) d_B_copy_13 (fun H locs hU => ?_)
  generalize eg13 : sG g5 i (x10, (g5.2.2.2 i).2) = g13 at hU
  refine lv_aload_n hx hb d_B_copy_16 rfl (lv_at hl 1 rfl) ?_
  refine va_get (D := z.1) (ci := 2) (v := .ref (rA z j)) (C := R_B) (T := F_B) (N := 3) hx hb hts in_B hown hU.2.1 hU.1 (2 + 2 * j) (uw_o z g13 hj) rfl 0 (by decide) (hts _ k_B_9) (fun _ h9 => h9) rfl d_B_copy_17 ?_
  refine lv_iconst (v := 0) hx hb d_B_copy_20 (by decide) ?_
  refine lv_aload_n hx hb d_B_copy_21 rfl (lv_at hl 0 rfl) ?_
  refine va_get (D := z.1) (ci := 2) (v := .ref (rA z i)) (C := R_B) (T := F_B) (N := 3) hx hb hts in_B hown hU.2.1 hU.1 (2 + 2 * i) (uw_o z g13 hi) rfl 0 (by decide) (hts _ k_B_9) (fun _ h9 => h9) rfl d_B_copy_22 ?_
  refine lv_iconst (v := 0) hx hb d_B_copy_25 (by decide) ?_
  refine lv_aload_n hx hb d_B_copy_26 rfl (lv_at hl 1 rfl) ?_
  refine va_get (D := z.1) (ci := 2) (v := .int ((g13.2.2.2 j).1)) (C := R_B) (T := F_B) (N := 3) hx hb hts in_B hown hU.2.1 hU.1 (2 + 2 * j) (uw_o z g13 hj) rfl 1 (by decide) (hts _ k_B_23) (fun _ h9 => h9) rfl d_B_copy_27 ?_
  refine lv_topi (fun x27 ex27 => ?_)
  have e10 : x10 = nI n := by rw [ex10, ← eg5, sG_n _ _ hij, hn1]
  have e27 : x27 = nI n := by rw [ex27, ← eg13, sG_n _ _ hij, ← eg5, sG_n _ _ hij, hn1]
  have eg : g13 = sG g i (nI n, (g.2.2.2 j).2.1, (g.2.2.2 i).2.2) := by rw [← eg13, ← eg5, e10, ex2, sG_s, sG_sG]
  have ei : g13.2.2.2 i = (nI n, (g.2.2.2 j).2.1, (g.2.2.2 i).2.2) := by rw [eg, sG_s]
  have ej : g13.2.2.2 j = g.2.2.2 j := by rw [eg, sG_n _ _ hij]
  rw [e27]
  refine va_copyi hx hb (hml.trans hl.1.symm) hown (hts _ k_B_27) (hts _ q_acopy_nat) (hts _ q_acopy_st) (hts _ q_acopy_in) hU.2.1 hU.1 hU.2.2.1 hU.2.2.2 (3 + 2 * j) (3 + 2 * i) j i (ty := .int) (uw_w z g13 hj) (uw_w z g13 hi) (zty_a z hj) (zty_a z hi) rfl (by decide) (by decide) (nI_pos (by omega)) (by rw [nI_clamp (by omega)]; exact Nat.le_trans (Nat.le_of_eq (Nat.zero_add n)) hn) (by rw [nI_clamp (by omega)]; exact Nat.le_trans (Nat.le_of_eq (Nat.zero_add n)) hn) (fun _ _ => rfl) (by decide) (by decide) d_B_copy_30 (fun H locs hP hD hS => ?_)
  have e9 := uw_sw z g13 hi (va_cpy (g13.2.2.2 j).2.2 (g13.2.2.2 i).2.2 (0 : Int32).toNatClampNeg (0 : Int32).toNatClampNeg (nI n).toNatClampNeg)
  have hU : Ws z (sW g13 i (va_cpy (g13.2.2.2 j).2.2 (g13.2.2.2 i).2.2 (0 : Int32).toNatClampNeg (0 : Int32).toNatClampNeg (nI n).toNatClampNeg)) s.heap H locs s := ⟨e9 ▸ hP, hU.2.1, e9 ▸ hD, hS⟩
  rw [sW_eq, ei, ej, eg, sG_sG, nI_clamp (by omega)] at hU
  obtain ⟨w1, w2⟩ := bOk_eq (b := (nI n, (g.2.2.2 j).2.1, va_cpy (g.2.2.2 j).2.2 (g.2.2.2 i).2.2 (0 : Int32).toNatClampNeg (0 : Int32).toNatClampNeg n)) hn hn1 hn1.symm rfl (fun q hq => sb_cpy0 hq) hok
  exact z_vret hx hb hr hlocks hsz hU ⟨_, rfl, w1, rfl, w2⟩ d_B_copy_33
  /-- t, u, the two of -4, the ring's length, for D above 0 -/
  def uaT (D : Nat) : Nat := (fB D * (wk D).2.1 + 2 * (wk D).2.2) % MM
  def uA (D : Nat) : Nat × Nat × Nat × Nat × Nat := if (wk D).1 % 2 = 1 then ((uaT D * uaT D % MM + 2) % MM, uaT D * (wk D).2.1 % MM, uaT D, (wk D).2.1, 2 * (wk D).1) else (uaT D, (wk D).2.1, 0, 0, (wk D).1)
  theorem wkS_le (D r : Nat) : ∀ (f b c k L B : Nat), (wkS D r f b c k L B).1 ≤ k + f := by
    intro f
    induction f with
    | zero => intro b c k L B; exact Nat.le_refl _
    | succ f ih =>
      intro b c k L B
      rw [wkS]
      split
      · exact Nat.le_add_right _ _
      · have := ih (nxB r b c) (nxC D r b c) (k + 1) (((b + r) / (2 * c) * L + B) % MM) L
        omega
set_option maxHeartbeats 4000000 in
set_option maxRecDepth 100000 in
theorem c_findUnitAbove (l : Launch) (z : ZZ) (sz : Nat) (g : St) {D : Nat} (hd : dOk D) : Met l y_U_findUnitAbove (zw y_U_findUnitAbove b_U_findUnitAbove 5 none) { frames := 4, cells := 0, slots := 0, locals := 105 } (va_Pc [.ref (mA z), .int (nI D)] (zI z g sz)) (va_Qv (fun g2 => g2.1 = g.1 ∧ g2.2.1 = nI (uA D).2.2.2.2 ∧ nOk g2 (uA D).1 (uA D).2.1 (uA D).2.2.1 (uA D).2.2.2.1) (zO z sz) (zA z sz)) 0 0 (zA z sz) := by
  refine z_ofW (by decide) (Nat.le_of_ble_eq_true rfl) (fun p e s m below meth c hx hb hr hml hown hts hlocks hname hsz hN ls hU hl => ?_)
  have hl : lv_has ls 5 [(0, .ref (mA z)), (1, .int (nI D))] := hl
  have hk1 : (wk D).1 ≤ 1000000 := wkS_le D _ 999999 _ _ 1 1 0
  refine lv_aload_n hx hb d_U_findUnitAbove_0 rfl (lv_at hl 0 rfl) ?_
  refine lv_iload_n hx hb d_U_findUnitAbove_1 rfl (lv_at hl 1 rfl) ?_
  refine z_calli (z_run (As := [.int (nI D)]) (rest := []) hx hb hml hown hts hU hN (c_walkToOne l z _ g hd) (w_U_walkToOne_cw hts k_U_145 rfl rfl ⟨Nat.le_of_ble_eq_true rfl, Nat.le_of_ble_eq_true rfl⟩) (z_recvM hU) rfl hl.1 rfl (lv_room (Nat.le_of_ble_eq_true rfl)) d_U_findUnitAbove_2 ⟨Nat.zero_le _, Nat.zero_le _⟩) hU (fun r2 g2 H locs hp hU => ?_)
  obtain ⟨hs, ⟨w8, w9, wb8, wb9, -⟩, e2, eL, eT⟩ := hp
  have eT : bv (g2.2.2.2 9) = uaT D := eT
  refine lv_istore_n (lv' := [(2, .int r2), (0, .ref (mA z)), (1, .int (nI D))]) hx hb d_U_findUnitAbove_5 rfl hl (by decide) rfl (fun ls hl => ?_)
  refine lv_aload_n hx hb d_U_findUnitAbove_6 rfl (lv_at hl 1 rfl) ?_
  refine va_get (D := z.1) (ci := 0) (v := .ref (kA z)) (C := R_U) (T := F_U) (N := 11) hx hb hts in_U hown hU.2.1 hU.1 0 rfl rfl 8 (by decide) (hts _ k_U_40) (fun _ h9 => h9) rfl d_U_findUnitAbove_7 ?_
  refine va_getN (D := z.1) (ci := 1) (v := .ref (oA z 9)) (C := R_K) (T := F_K) (N := 6) hx hb hts in_K hown hU.2.1 hU.1 1 rfl rfl 1 (by decide) (va_Nw.use rfl hN.2.2.2) (fun _ h9 => h9) rfl d_U_findUnitAbove_10 ?_
  refine lv_astore_n (lv' := [(3, .ref (oA z 9)), (2, .int r2), (0, .ref (mA z)), (1, .int (nI D))]) hx hb d_U_findUnitAbove_13 rfl hl (by decide) rfl (fun ls hl => ?_)
  refine lv_aload_n hx hb d_U_findUnitAbove_14 rfl (lv_at hl 2 rfl) ?_
  refine va_get (D := z.1) (ci := 0) (v := .ref (kA z)) (C := R_U) (T := F_U) (N := 11) hx hb hts in_U hown hU.2.1 hU.1 0 rfl rfl 8 (by decide) (hts _ k_U_40) (fun _ h9 => h9) rfl d_U_findUnitAbove_15 ?_
  refine va_getN (D := z.1) (ci := 1) (v := .ref (oA z 8)) (C := R_K) (T := F_K) (N := 6) hx hb hts in_K hown hU.2.1 hU.1 1 rfl rfl 0 (by decide) (va_Nw.use rfl hN.2.2.1) (fun _ h9 => h9) rfl d_U_findUnitAbove_18 ?_
  refine lv_astore (lv' := [(4, .ref (oA z 8)), (3, .ref (oA z 9)), (2, .int r2), (0, .ref (mA z)), (1, .int (nI D))]) hx hb d_U_findUnitAbove_21 hl (by decide) rfl (fun ls hl => ?_)
  refine lv_iload_n hx hb d_U_findUnitAbove_23 rfl (lv_at hl 2 rfl) ?_
  refine lv_iconst (v := 1) hx hb d_U_findUnitAbove_24 (by decide) ?_
  refine lv_iand hx hb d_U_findUnitAbove_25 ?_
  refine lv_topi (fun x25 ex25 => ?_)
  refine lv_iconst (v := 1) hx hb d_U_findUnitAbove_26 (by decide) ?_
  have e25 : x25.toInt = ((wk D).1 : Int) % 2 := by rw [ex25, e2, ← nI_toInt (n := (wk D).1) (by omega)]; exact Jvm.Kit.i32_mask _ 1 (k := 1) (by decide) (by decide)
  refine lv_icmp_ne (tgt := 84) hx hb d_U_findUnitAbove_27 (by decide) (fun c27 => ?_) (fun c27 => ?_)
  · have h27 : ¬ (wk D).1 % 2 = 1 := fun q => c27 (Int32.toInt_inj.mp (by rw [e25]; show _ = (1 : Int); omega))
    rw [uA, if_neg h27]
    refine lv_aload_n hx hb d_U_findUnitAbove_84 rfl (lv_at hl 3 rfl) ?_
    refine lv_iload_n hx hb d_U_findUnitAbove_85 rfl (lv_at hl 2 rfl) ?_
    refine zp_R hx hb hts hown hU (hts _ k_U_67) d_U_findUnitAbove_86 (fun H locs hU => ?_)
    generalize eg86 : sR g2 r2 = g86 at hU
    refine lv_aload_n hx hb d_U_findUnitAbove_89 rfl (lv_at hl 3 rfl) ?_
    refine va_get (D := z.1) (ci := 0) (v := .ref (oA z 6)) (C := R_U) (T := F_U) (N := 11) hx hb hts in_U hown hU.2.1 hU.1 0 rfl rfl 6 (by decide) (hts _ k_U_31) (fun _ h9 => h9) rfl d_U_findUnitAbove_90 ?_
    refine lv_iconst (v := 0) hx hb d_U_findUnitAbove_93 (by decide) ?_
    refine z_callv (z_run (As := [.int 0]) (rest := []) hx hb hml hown hts hU hN (c_set l z _ g86 (i := 6) (by decide) (v := 0) (by decide)) (w_B_set_cw hts k_U_142 rfl rfl ⟨Nat.le_of_ble_eq_true rfl, Nat.le_of_ble_eq_true rfl⟩) (z_recvB hU (by decide)) rfl hl.1 rfl (lv_room (Nat.le_of_ble_eq_true rfl)) d_U_findUnitAbove_94 ⟨Nat.zero_le _, Nat.zero_le _⟩) hU (fun g94 H locs hp hU => ?_)
    obtain ⟨b6, rfl, p1, p2, p3⟩ := hp
    refine lv_aload_n hx hb d_U_findUnitAbove_97 rfl (lv_at hl 3 rfl) ?_
    refine va_get (D := z.1) (ci := 0) (v := .ref (oA z 7)) (C := R_U) (T := F_U) (N := 11) hx hb hts in_U hown hU.2.1 hU.1 0 rfl rfl 7 (by decide) (hts _ k_U_34) (fun _ h9 => h9) rfl d_U_findUnitAbove_98 ?_
    refine lv_iconst (v := 0) hx hb d_U_findUnitAbove_101 (by decide) ?_
    refine z_callv (z_run (As := [.int 0]) (rest := []) hx hb hml hown hts hU hN (c_set l z _ (sG g86 6 b6) (i := 7) (by decide) (v := 0) (by decide)) (w_B_set_cw hts k_U_142 rfl rfl ⟨Nat.le_of_ble_eq_true rfl, Nat.le_of_ble_eq_true rfl⟩) (z_recvB hU (by decide)) rfl hl.1 rfl (lv_room (Nat.le_of_ble_eq_true rfl)) d_U_findUnitAbove_102 ⟨Nat.zero_le _, Nat.zero_le _⟩) hU (fun g102 H locs hp hU => ?_)
    obtain ⟨b7, rfl, q1, q2, q3⟩ := hp
    refine lv_aload_n hx hb d_U_findUnitAbove_105 rfl (lv_at hl 3 rfl) ?_
    refine va_get (D := z.1) (ci := 0) (v := .ref (oA z 0)) (C := R_U) (T := F_U) (N := 11) hx hb hts in_U hown hU.2.1 hU.1 0 rfl rfl 0 (by decide) (hts _ k_U_10) (fun _ h9 => h9) rfl d_U_findUnitAbove_106 ?_
    refine lv_aload_n hx hb d_U_findUnitAbove_109 rfl (lv_at hl 1 rfl) ?_
    have v9 : (sG (sG g86 6 b6) 7 b7).2.2.2 9 = g2.2.2.2 9 := by rw [sG_n _ _ (by decide), sG_n _ _ (by decide), ← eg86]; rfl
    refine z_callv (z_run (As := [.ref (oA z 9)]) (rest := []) hx hb hml hown hts hU hN (c_copy l z _ (sG (sG g86 6 b6) 7 b7) (i := 0) (j := 9) (by decide) (by decide) (by decide) (by rw [v9]; exact w9)) (w_B_copy_cw hts k_U_154 rfl rfl ⟨Nat.le_of_ble_eq_true rfl, Nat.le_of_ble_eq_true rfl⟩) (z_recvB hU (by decide)) rfl hl.1 rfl (lv_room (Nat.le_of_ble_eq_true rfl)) d_U_findUnitAbove_110 ⟨Nat.zero_le _, Nat.zero_le _⟩) hU (fun g110 H locs hp hU => ?_)
    obtain ⟨b0, rfl, r1, r3, r4⟩ := hp
    rw [v9] at r3 r4
    refine lv_aload_n hx hb d_U_findUnitAbove_113 rfl (lv_at hl 3 rfl) ?_
    refine va_get (D := z.1) (ci := 0) (v := .ref (oA z 1)) (C := R_U) (T := F_U) (N := 11) hx hb hts in_U hown hU.2.1 hU.1 0 rfl rfl 1 (by decide) (hts _ k_U_16) (fun _ h9 => h9) rfl d_U_findUnitAbove_114 ?_
    refine lv_aload hx hb d_U_findUnitAbove_117 (lv_at hl 0 rfl) ?_
    have v8 : (sG (sG (sG g86 6 b6) 7 b7) 0 b0).2.2.2 8 = g2.2.2.2 8 := by rw [sG_n _ _ (by decide), sG_n _ _ (by decide), sG_n _ _ (by decide), ← eg86]; rfl
    refine z_callv (z_run (As := [.ref (oA z 8)]) (rest := []) hx hb hml hown hts hU hN (c_copy l z _ (sG (sG (sG g86 6 b6) 7 b7) 0 b0) (i := 1) (j := 8) (by decide) (by decide) (by decide) (by rw [v8]; exact w8)) (w_B_copy_cw hts k_U_154 rfl rfl ⟨Nat.le_of_ble_eq_true rfl, Nat.le_of_ble_eq_true rfl⟩) (z_recvB hU (by decide)) rfl hl.1 rfl (lv_room (Nat.le_of_ble_eq_true rfl)) d_U_findUnitAbove_119 ⟨Nat.zero_le _, Nat.zero_le _⟩) hU (fun g119 H locs hp hU => ?_)
    obtain ⟨b1, rfl, s1, s3, s4⟩ := hp
    rw [v8] at s3 s4
    exact z_vret hx hb hr hlocks hsz hU ⟨by rw [← hs.1, ← eg86]; rfl, by rw [← e2, ← eg86]; rfl, ⟨by rw [sG_n _ _ (by decide), sG_s]; exact r1, by rw [sG_n _ _ (by decide), sG_s, r3, wb9], by rw [sG_n _ _ (by decide), sG_s, r4, eT]⟩, ⟨by rw [sG_s]; exact s1, by rw [sG_s, s3, wb8], by rw [sG_s, s4, eL]⟩, ⟨by rw [sG_n _ _ (by decide), sG_n _ _ (by decide), sG_n _ _ (by decide), sG_s]; exact p1, by rw [sG_n _ _ (by decide), sG_n _ _ (by decide), sG_n _ _ (by decide), sG_s]; exact p2, by rw [sG_n _ _ (by decide), sG_n _ _ (by decide), sG_n _ _ (by decide), sG_s]; exact p3⟩, ⟨by rw [sG_n _ _ (by decide), sG_n _ _ (by decide), sG_s]; exact q1, by rw [sG_n _ _ (by decide), sG_n _ _ (by decide), sG_s]; exact q2, by rw [sG_n _ _ (by decide), sG_n _ _ (by decide), sG_s]; exact q3⟩⟩ d_U_findUnitAbove_122
  · have h27 : (wk D).1 % 2 = 1 := by
      have q : x25.toInt = (1 : Int) := by rw [c27]; rfl
      rw [e25] at q
      omega
    rw [uA, if_pos h27]
    refine lv_aload_n hx hb d_U_findUnitAbove_30 rfl (lv_at hl 3 rfl) ?_
    refine lv_iconst (v := 2) hx hb d_U_findUnitAbove_31 (by decide) ?_
    refine lv_iload_n hx hb d_U_findUnitAbove_32 rfl (lv_at hl 2 rfl) ?_
    refine lv_imul hx hb d_U_findUnitAbove_33 ?_
    refine lv_topi (fun x33 ex33 => ?_)
    refine zp_R hx hb hts hown hU (hts _ k_U_67) d_U_findUnitAbove_34 (fun H locs hU => ?_)
    generalize eg34 : sR g2 x33 = g34 at hU
    refine lv_aload_n hx hb d_U_findUnitAbove_37 rfl (lv_at hl 3 rfl) ?_
    refine va_get (D := z.1) (ci := 0) (v := .ref (oA z 6)) (C := R_U) (T := F_U) (N := 11) hx hb hts in_U hown hU.2.1 hU.1 0 rfl rfl 6 (by decide) (hts _ k_U_31) (fun _ h9 => h9) rfl d_U_findUnitAbove_38 ?_
    refine lv_aload_n hx hb d_U_findUnitAbove_41 rfl (lv_at hl 1 rfl) ?_
    have e33 : x33 = nI (2 * (wk D).1) := by rw [ex33, e2]; exact pk_mul 2 _
    have v9 : g34.2.2.2 9 = g2.2.2.2 9 := by rw [← eg34]; rfl
    refine z_callv (z_run (As := [.ref (oA z 9)]) (rest := []) hx hb hml hown hts hU hN (c_copy l z _ g34 (i := 6) (j := 9) (by decide) (by decide) (by decide) (by rw [v9]; exact w9)) (w_B_copy_cw hts k_U_154 rfl rfl ⟨Nat.le_of_ble_eq_true rfl, Nat.le_of_ble_eq_true rfl⟩) (z_recvB hU (by decide)) rfl hl.1 rfl (lv_room (Nat.le_of_ble_eq_true rfl)) d_U_findUnitAbove_42 ⟨Nat.zero_le _, Nat.zero_le _⟩) hU (fun g42 H locs hp hU => ?_)
    obtain ⟨b6, rfl, p1, p2, p3⟩ := hp
    rw [v9] at p2 p3
    refine lv_aload_n hx hb d_U_findUnitAbove_45 rfl (lv_at hl 3 rfl) ?_
    refine va_get (D := z.1) (ci := 0) (v := .ref (oA z 7)) (C := R_U) (T := F_U) (N := 11) hx hb hts in_U hown hU.2.1 hU.1 0 rfl rfl 7 (by decide) (hts _ k_U_34) (fun _ h9 => h9) rfl d_U_findUnitAbove_46 ?_
    refine lv_aload hx hb d_U_findUnitAbove_49 (lv_at hl 0 rfl) ?_
    have v8 : (sG g34 6 b6).2.2.2 8 = g2.2.2.2 8 := by rw [sG_n _ _ (by decide), ← eg34]; rfl
    refine z_callv (z_run (As := [.ref (oA z 8)]) (rest := []) hx hb hml hown hts hU hN (c_copy l z _ (sG g34 6 b6) (i := 7) (j := 8) (by decide) (by decide) (by decide) (by rw [v8]; exact w8)) (w_B_copy_cw hts k_U_154 rfl rfl ⟨Nat.le_of_ble_eq_true rfl, Nat.le_of_ble_eq_true rfl⟩) (z_recvB hU (by decide)) rfl hl.1 rfl (lv_room (Nat.le_of_ble_eq_true rfl)) d_U_findUnitAbove_51 ⟨Nat.zero_le _, Nat.zero_le _⟩) hU (fun g51 H locs hp hU => ?_)
    obtain ⟨b7, rfl, q1, q2, q3⟩ := hp
    rw [v8] at q2 q3
    refine lv_aload_n hx hb d_U_findUnitAbove_54 rfl (lv_at hl 3 rfl) ?_
    refine va_get (D := z.1) (ci := 0) (v := .ref (oA z 0)) (C := R_U) (T := F_U) (N := 11) hx hb hts in_U hown hU.2.1 hU.1 0 rfl rfl 0 (by decide) (hts _ k_U_10) (fun _ h9 => h9) rfl d_U_findUnitAbove_55 ?_
    refine lv_aload_n hx hb d_U_findUnitAbove_58 rfl (lv_at hl 1 rfl) ?_
    refine lv_aload_n hx hb d_U_findUnitAbove_59 rfl (lv_at hl 1 rfl) ?_
    have v9 : (sG (sG g34 6 b6) 7 b7).2.2.2 9 = g2.2.2.2 9 := by rw [sG_n _ _ (by decide), sG_n _ _ (by decide), ← eg34]; rfl
    refine z_callv (z_run (As := [.ref (oA z 9), .ref (oA z 9)]) (rest := []) hx hb hml hown hts hU hN (c_setProduct l z _ (sG (sG g34 6 b6) 7 b7) (i := 0) (j := 9) (k := 9) (by decide) (by decide) (by decide) (by decide) (by decide) (by rw [v9]; exact w9) (by rw [v9]; exact w9)) (w_B_setProduct_cw hts k_U_158 rfl rfl ⟨Nat.le_of_ble_eq_true rfl, Nat.le_of_ble_eq_true rfl⟩) (z_recvB hU (by decide)) rfl hl.1 rfl (lv_room (Nat.le_of_ble_eq_true rfl)) d_U_findUnitAbove_60 ⟨Nat.zero_le _, Nat.zero_le _⟩) hU (fun g60 H locs hp hU => ?_)
    obtain ⟨b0, rfl, r1, r2, r3⟩ := hp
    rw [v9, if_pos rfl] at r2
    rw [v9, eT] at r3
    refine lv_aload_n hx hb d_U_findUnitAbove_63 rfl (lv_at hl 3 rfl) ?_
    refine va_get (D := z.1) (ci := 0) (v := .ref (oA z 0)) (C := R_U) (T := F_U) (N := 11) hx hb hts in_U hown hU.2.1 hU.1 0 rfl rfl 0 (by decide) (hts _ k_U_10) (fun _ h9 => h9) rfl d_U_findUnitAbove_64 ?_
    refine lv_iconst (v := 2) hx hb d_U_findUnitAbove_67 (by decide) ?_
    refine z_callv (z_run (As := [.int 2]) (rest := []) hx hb hml hown hts hU hN (c_addSmall l z _ (sG (sG (sG g34 6 b6) 7 b7) 0 b0) (i := 0) (by decide) (by rw [sG_s]; exact r1) (v := 2) (by decide)) (w_B_addSmall_cw hts k_U_162 rfl rfl ⟨Nat.le_of_ble_eq_true rfl, Nat.le_of_ble_eq_true rfl⟩) (z_recvB hU (by decide)) rfl hl.1 rfl (lv_room (Nat.le_of_ble_eq_true rfl)) d_U_findUnitAbove_68 ⟨Nat.zero_le _, Nat.zero_le _⟩) hU (fun g68 H locs hp hU => ?_)
    obtain ⟨b01, rfl, t1, t2, t3⟩ := hp
    rw [sG_s, r2] at t2
    rw [sG_s, r3] at t3
    rw [sG_sG] at hU
    refine lv_aload_n hx hb d_U_findUnitAbove_71 rfl (lv_at hl 3 rfl) ?_
    refine va_get (D := z.1) (ci := 0) (v := .ref (oA z 1)) (C := R_U) (T := F_U) (N := 11) hx hb hts in_U hown hU.2.1 hU.1 0 rfl rfl 1 (by decide) (hts _ k_U_16) (fun _ h9 => h9) rfl d_U_findUnitAbove_72 ?_
    refine lv_aload_n hx hb d_U_findUnitAbove_75 rfl (lv_at hl 1 rfl) ?_
    refine lv_aload hx hb d_U_findUnitAbove_76 (lv_at hl 0 rfl) ?_
    have v9 : (sG (sG (sG g34 6 b6) 7 b7) 0 b01).2.2.2 9 = g2.2.2.2 9 := by rw [sG_n _ _ (by decide), sG_n _ _ (by decide), sG_n _ _ (by decide), ← eg34]; rfl
    have v8 : (sG (sG (sG g34 6 b6) 7 b7) 0 b01).2.2.2 8 = g2.2.2.2 8 := by rw [sG_n _ _ (by decide), sG_n _ _ (by decide), sG_n _ _ (by decide), ← eg34]; rfl
    refine z_callv (z_run (As := [.ref (oA z 9), .ref (oA z 8)]) (rest := []) hx hb hml hown hts hU hN (c_setProduct l z _ (sG (sG (sG g34 6 b6) 7 b7) 0 b01) (i := 1) (j := 9) (k := 8) (by decide) (by decide) (by decide) (by decide) (by decide) (by rw [v9]; exact w9) (by rw [v8]; exact w8)) (w_B_setProduct_cw hts k_U_158 rfl rfl ⟨Nat.le_of_ble_eq_true rfl, Nat.le_of_ble_eq_true rfl⟩) (z_recvB hU (by decide)) rfl hl.1 rfl (lv_room (Nat.le_of_ble_eq_true rfl)) d_U_findUnitAbove_78 ⟨Nat.zero_le _, Nat.zero_le _⟩) hU (fun g78 H locs hp hU => ?_)
    obtain ⟨b1, rfl, s1, s2, s3⟩ := hp
    rw [v9, v8, wb8, wb9, if_pos rfl] at s2
    rw [v9, v8, eT, eL] at s3
    refine lv_goto (tgt := 122) hx hb d_U_findUnitAbove_81 (by decide) ?_
    exact z_vret hx hb hr hlocks hsz hU ⟨by rw [← hs.1, ← eg34]; rfl, by rw [← e33, ← eg34]; rfl, ⟨by rw [sG_n _ _ (by decide), sG_s]; exact t1, by rw [sG_n _ _ (by decide), sG_s, t2], by rw [sG_n _ _ (by decide), sG_s, t3]⟩, ⟨by rw [sG_s]; exact s1, by rw [sG_s, s2], by rw [sG_s, s3]⟩, ⟨by rw [sG_n _ _ (by decide), sG_n _ _ (by decide), sG_n _ _ (by decide), sG_s]; exact p1, by rw [sG_n _ _ (by decide), sG_n _ _ (by decide), sG_n _ _ (by decide), sG_s, p2, wb9], by rw [sG_n _ _ (by decide), sG_n _ _ (by decide), sG_n _ _ (by decide), sG_s, p3, eT]⟩, ⟨by rw [sG_n _ _ (by decide), sG_n _ _ (by decide), sG_s]; exact q1, by rw [sG_n _ _ (by decide), sG_n _ _ (by decide), sG_s, q2, wb8], by rw [sG_n _ _ (by decide), sG_n _ _ (by decide), sG_s, q3, eL]⟩⟩ d_U_findUnitAbove_122
end
section
/-! UnitFinder: become -/
set_option maxHeartbeats 4000000 in
set_option maxRecDepth 100000 in
theorem c_findUnitAbove2 (l : Launch) (z : ZZ) (sz : Nat) (g : St) {d : Int32} {D : Nat} (hdD : d = nI D) (hd : dOk D) : Met l y_U_findUnitAbove (zw y_U_findUnitAbove b_U_findUnitAbove 5 none) { frames := 4, cells := 0, slots := 0, locals := 105 } (va_Pc [.ref (mA z), .int d] (zI z g sz)) (va_Qv (fun g2 => g2.1 = g.1 ∧ g2.2.1 = nI (uA D).2.2.2.2 ∧ nOk g2 (uA D).1 (uA D).2.1 (uA D).2.2.1 (uA D).2.2.2.1) (zO z sz) (zA z sz)) 0 0 (zA z sz) := by
  subst hdD
  exact c_findUnitAbove l z sz g hd
  /-- t, u, the two of -4, the ring's length, of any D -/
  def uO (d : Int) : Nat × Nat × Nat × Nat × Nat := if 0 < d then uA d.toNat else (tB d, uB d, 0, 0, 0)
  /-- the object's state: D, and the form asked latest -/
  def cS (g : St) (d a b c : Int) : Prop := g.1.toInt = d ∧ g.2.1 = nI (uO d).2.2.2.2 ∧ nOk g (uO d).1 (uO d).2.1 (uO d).2.2.1 (uO d).2.2.2.1 ∧ (bOk (g.2.2.2 2) ∧ bOk (g.2.2.2 3) ∧ bOk (g.2.2.2 4) ∧ bOk (g.2.2.2 5)) ∧ bz (g.2.2.2 2) = (if b < 0 then amS (uO d).1 (uO d).2.1 b else amD (uO d).1 (uO d).2.1 b) ∧ bz (g.2.2.2 3) = amT (uO d).2.1 (-c) ∧ bz (g.2.2.2 4) = amT (uO d).2.1 a ∧ bz (g.2.2.2 5) = (if b < 0 then amD (uO d).1 (uO d).2.1 b else amS (uO d).1 (uO d).2.1 b)
  theorem nOk.keep {g g2 : St} {t u a b : Nat} (h : nOk g t u a b) (hs : sP g g2) : nOk g2 t u a b := by
    obtain ⟨h0, h1, h6, h7⟩ := h
    exact ⟨by rw [hs.2.2.2 0 (by omega)]; exact h0, by rw [hs.2.2.2 1 (by omega)]; exact h1, by rw [hs.2.2.2 6 (by omega)]; exact h6, by rw [hs.2.2.2 7 (by omega)]; exact h7⟩
set_option maxHeartbeats 4000000 in
set_option maxRecDepth 100000 in
theorem c_become (l : Launch) (z : ZZ) (sz : Nat) (g : St) {d : Int32} (hd : tk d.toInt) : Met l y_U_become (zw y_U_become b_U_become 3 none) { frames := 5, cells := 0, slots := 0, locals := 129 } (va_Pc [.ref (mA z), .int d] (zI z g sz)) (va_Qv (fun g2 => cS g2 d.toInt 1 (d.toInt % 2) ((d.toInt % 2 - d.toInt) / 4)) (zO z sz) (zA z sz)) 0 0 (zA z sz) := by
  refine z_ofW (by decide) (Nat.le_of_ble_eq_true rfl) (fun p e s m below meth c hx hb hr hml hown hts hlocks hname hsz hN ls hU hl => ?_)
  have hl : lv_has ls 3 [(0, .ref (mA z)), (1, .int d)] := hl
  have hdr := i32_rng d
  have E : ∀ (g1 : St) (H : Heap) (locs : List Loc) (ls : Array Slot), g1.1 = d → g1.2.1 = nI (uO d.toInt).2.2.2.2 → nOk g1 (uO d.toInt).1 (uO d.toInt).2.1 (uO d.toInt).2.2.1 (uO d.toInt).2.2.2.1 → Ws z g1 s.heap H locs s → lv_has ls 3 [(0, .ref (mA z)), (1, .int d)] → W p l e ({ frames := 5, cells := 0, slots := 0, locals := 129 } : Room) s m ([.ref (mA z), .int d] : List Value).toArray below meth c H locs 0 0 (MQ below (va_Qv (fun g2 => cS g2 d.toInt 1 (d.toInt % 2) ((d.toInt % 2 - d.toInt) / 4)) (zO z sz) (zA z sz)) ([.ref (mA z), .int d] : List Value).toArray s 0 0 (zA z sz)) (F0 m 22 ls []) := by
    intro g1 H locs ls q1 q2 q3 hU hl
    refine lv_iload_n hx hb d_U_become_22 rfl (lv_at hl 1 rfl) ?_
    refine lv_iconst (v := 1) hx hb d_U_become_23 (by decide) ?_
    refine lv_iand hx hb d_U_become_24 ?_
    refine lv_topi (fun x24 ex24 => ?_)
    refine lv_istore_n (lv' := [(2, .int x24), (0, .ref (mA z)), (1, .int d)]) hx hb d_U_become_25 rfl hl (by decide) rfl (fun ls hl => ?_)
    refine lv_aload_n hx hb d_U_become_26 rfl (lv_at hl 1 rfl) ?_
    refine lv_iconst (v := 1) hx hb d_U_become_27 (by decide) ?_
    refine lv_iload_n hx hb d_U_become_28 rfl (lv_at hl 0 rfl) ?_
    refine lv_iload_n hx hb d_U_become_29 rfl (lv_at hl 0 rfl) ?_
    refine lv_iload_n hx hb d_U_become_30 rfl (lv_at hl 2 rfl) ?_
    refine lv_isub hx hb d_U_become_31 ?_
    refine lv_topi (fun x31 ex31 => ?_)
    refine lv_iconst (v := 4) hx hb d_U_become_32 (by decide) ?_
    have hne33 : ¬ (4 : Int32) = 0 := by decide
    refine lv_idiv hx hb d_U_become_33 hne33 ?_
    refine lv_topi (fun x33 ex33 => ?_)
    have t24 : x24.toInt = d.toInt % 2 := by rw [ex24]; exact Jvm.Kit.i32_mask d 1 (k := 1) (by decide) (by decide)
    have t31 : x31.toInt = d.toInt % 2 - d.toInt := by
      have := hd.1
      have := hd.2.1
      rw [ex31, Jvm.Kit.i32_sub] <;> rw [t24] <;> omega
    have t33 : x33.toInt = (d.toInt % 2 - d.toInt) / 4 := by
      have h4 : d.toInt % 4 = d.toInt % 2 := by have := hd.2.2.1; omega
      rw [ex33, Jvm.Kit.i32_div (by rw [t31]; intro q; have := q.2; exact absurd this (by decide)), t31, show (4 : Int32).toInt = 4 from rfl, Int.tdiv_eq_ediv_of_dvd]
      omega
    obtain ⟨⟨a0, a1, a2⟩, ⟨b0, b1, b2⟩, -, -⟩ := id q3
    have hdl := hd.1
    have hdu := hd.2.1
    refine z_callv (z_run (As := [.int 1, .int x24, .int x33]) (rest := []) hx hb hml hown hts hU hN (c_makeAutomorph l z _ g1 a0 b0 a1 b1 (a := 1) (b := x24) (c0 := x33) (by rw [t24]; omega) (by rw [t33]; omega)) (w_U_makeAutomorph_cw hts k_U_91 rfl rfl ⟨Nat.le_of_ble_eq_true rfl, Nat.le_of_ble_eq_true rfl⟩) (z_recvM hU) rfl hl.1 rfl (lv_room (Nat.le_of_ble_eq_true rfl)) d_U_become_34 ⟨Nat.zero_le _, Nat.zero_le _⟩) hU (fun g34 H locs hp hU => ?_)
    obtain ⟨s1, k2, k3, k4, k5, z2, z3, z4, z5⟩ := hp
    rw [a2, b2, t24] at z2 z5
    rw [b2, t33] at z3
    rw [b2] at z4
    exact z_vret hx hb hr hlocks hsz hU ⟨by rw [s1.1, q1], by rw [s1.2.1, q2], q3.keep s1, ⟨k2, k3, k4, k5⟩, z2, z3, z4, z5⟩ d_U_become_37
  refine lv_aload_n hx hb d_U_become_0 rfl (lv_at hl 0 rfl) ?_
  refine lv_iload_n hx hb d_U_become_1 rfl (lv_at hl 1 rfl) ?_
  refine zp_D hx hb hts hown hU (hts _ k_U_63) d_U_become_2 (fun H locs hU => ?_)
  generalize eg2 : sD g d = g2 at hU
  refine lv_iload_n hx hb d_U_become_5 rfl (lv_at hl 1 rfl) ?_
  refine lv_if_le (tgt := 17) hx hb d_U_become_6 (by decide) (fun c6 => ?_) (fun c6 => ?_)
  · have h6 : ¬ 0 < d.toInt := by
      rw [Int32.le_iff_toInt_le, Int32.toInt_zero] at c6
      omega
    refine lv_aload_n hx hb d_U_become_17 rfl (lv_at hl 0 rfl) ?_
    refine lv_iload_n hx hb d_U_become_18 rfl (lv_at hl 1 rfl) ?_
    refine z_callv (z_run (As := [.int d]) (rest := []) hx hb hml hown hts hU hN (c_setUnitBelow l z _ g2 (d := d)) (w_U_setUnitBelow_cw hts k_U_139 rfl rfl ⟨Nat.le_of_ble_eq_true rfl, Nat.le_of_ble_eq_true rfl⟩) (z_recvM hU) rfl hl.1 rfl (lv_room (Nat.le_of_ble_eq_true rfl)) d_U_become_19 ⟨Nat.zero_le _, Nat.zero_le _⟩) hU (fun g19 H locs hp hU => ?_)
    obtain ⟨k1, k2, k3⟩ := hp
    exact E g19 _ _ ls (by rw [k1, ← eg2]; rfl) (by rw [k2, uO, if_neg h6]; rfl) (by rw [uO, if_neg h6]; exact k3) hU hl
  · have h6 : 0 < d.toInt := by
      rw [Int32.le_iff_toInt_le, Int32.toInt_zero] at c6
      omega
    have hdD : d = nI d.toInt.toNat := by
      apply Int32.toInt_inj.mp
      rw [nI_toInt (by omega)]
      omega
    have hdn : ((d.toInt.toNat : Nat) : Int) = d.toInt := by omega
    have hdo : dOk d.toInt.toNat := tk_dOk (by rw [hdn]; exact hd) (by omega)
    refine lv_aload_n hx hb d_U_become_9 rfl (lv_at hl 0 rfl) ?_
    refine lv_iload_n hx hb d_U_become_10 rfl (lv_at hl 1 rfl) ?_
    refine z_callv (z_run (As := [.int d]) (rest := []) hx hb hml hown hts hU hN (c_findUnitAbove2 l z _ g2 hdD hdo) (w_U_findUnitAbove_cw hts k_U_136 rfl rfl ⟨Nat.le_of_ble_eq_true rfl, Nat.le_of_ble_eq_true rfl⟩) (z_recvM hU) rfl hl.1 rfl (lv_room (Nat.le_of_ble_eq_true rfl)) d_U_become_11 ⟨Nat.zero_le _, Nat.zero_le _⟩) hU (fun g11 H locs hp hU => ?_)
    obtain ⟨k1, k2, k3⟩ := hp
    refine lv_goto (tgt := 22) hx hb d_U_become_14 (by decide) ?_
    exact E g11 _ _ ls (by rw [k1, ← eg2]; rfl) (by rw [k2, uO, if_pos h6]) (by rw [uO, if_pos h6]; exact k3) hU hl
end
section
theorem d_M_init_0 : decode b_M_init 0 = .ok (.aload_n 0, 1) := by decide +kernel
theorem d_M_init_1 : decode b_M_init 1 = .ok (.invokespecial 1, 3) := by decide +kernel
theorem d_M_init_4 : decode b_M_init 4 = .ok (.aload_n 0, 1) := by decide +kernel
theorem d_M_init_5 : decode b_M_init 5 = .ok (.ldc2_w 7, 3) := by decide +kernel
theorem d_M_init_8 : decode b_M_init 8 = .ok (.putfield 9, 3) := by decide +kernel
theorem d_M_init_11 : decode b_M_init 11 = .ok (.aload_n 0, 1) := by decide +kernel
theorem d_M_init_12 : decode b_M_init 12 = .ok (.sipush 12100, 3) := by decide +kernel
theorem d_M_init_15 : decode b_M_init 15 = .ok (.newarray .int, 2) := by decide +kernel
theorem d_M_init_17 : decode b_M_init 17 = .ok (.putfield 15, 3) := by decide +kernel
theorem d_M_init_20 : decode b_M_init 20 = .ok (.aload_n 0, 1) := by decide +kernel
theorem d_M_init_21 : decode b_M_init 21 = .ok (.ldc2_w 7, 3) := by decide +kernel
theorem d_M_init_24 : decode b_M_init 24 = .ok (.invokevirtual 19, 3) := by decide +kernel
theorem d_M_init_27 : decode b_M_init 27 = .ok (.return_, 1) := by decide +kernel
theorem d_M_thrown_0 : decode b_M_thrown 0 = .ok (.aload_n 0, 1) := by decide +kernel
theorem d_M_thrown_1 : decode b_M_thrown 1 = .ok (.getfield 23, 3) := by decide +kernel
theorem d_M_thrown_4 : decode b_M_thrown 4 = .ok (.ireturn, 1) := by decide +kernel
theorem d_M_raise_0 : decode b_M_raise 0 = .ok (.aload_n 0, 1) := by decide +kernel
theorem d_M_raise_1 : decode b_M_raise 1 = .ok (.iload_n 1, 1) := by decide +kernel
theorem d_M_raise_2 : decode b_M_raise 2 = .ok (.putfield 23, 3) := by decide +kernel
theorem d_M_raise_5 : decode b_M_raise 5 = .ok (.iconst 0, 1) := by decide +kernel
theorem d_M_raise_6 : decode b_M_raise 6 = .ok (.ireturn, 1) := by decide +kernel
theorem d_M_in_0 : decode b_M_in 0 = .ok (.lload_n 0, 1) := by decide +kernel
theorem d_M_in_1 : decode b_M_in 1 = .ok (.lload_n 2, 1) := by decide +kernel
theorem d_M_in_2 : decode b_M_in 2 = .ok (.lcmp, 1) := by decide +kernel
theorem d_M_in_3 : decode b_M_in 3 = .ok (.ifCond .lt 14, 3) := by decide +kernel
theorem d_M_in_6 : decode b_M_in 6 = .ok (.lload_n 0, 1) := by decide +kernel
theorem d_M_in_7 : decode b_M_in 7 = .ok (.lload 4, 2) := by decide +kernel
theorem d_M_in_9 : decode b_M_in 9 = .ok (.lcmp, 1) := by decide +kernel
theorem d_M_in_10 : decode b_M_in 10 = .ok (.ifCond .gt 7, 3) := by decide +kernel
theorem d_M_in_13 : decode b_M_in 13 = .ok (.iconst 1, 1) := by decide +kernel
theorem d_M_in_14 : decode b_M_in 14 = .ok (.goto 4, 3) := by decide +kernel
theorem d_M_in_17 : decode b_M_in 17 = .ok (.iconst 0, 1) := by decide +kernel
theorem d_M_in_18 : decode b_M_in 18 = .ok (.ireturn, 1) := by decide +kernel
theorem d_M_wholeRoot_0 : decode b_M_wholeRoot 0 = .ok (.lconst 0, 1) := by decide +kernel
theorem d_M_wholeRoot_1 : decode b_M_wholeRoot 1 = .ok (.lstore_n 2, 1) := by decide +kernel
theorem d_M_wholeRoot_2 : decode b_M_wholeRoot 2 = .ok (.lload_n 2, 1) := by decide +kernel
theorem d_M_wholeRoot_3 : decode b_M_wholeRoot 3 = .ok (.lconst 1, 1) := by decide +kernel
theorem d_M_wholeRoot_4 : decode b_M_wholeRoot 4 = .ok (.ladd, 1) := by decide +kernel
theorem d_M_wholeRoot_5 : decode b_M_wholeRoot 5 = .ok (.lload_n 2, 1) := by decide +kernel
theorem d_M_wholeRoot_6 : decode b_M_wholeRoot 6 = .ok (.lconst 1, 1) := by decide +kernel
theorem d_M_wholeRoot_7 : decode b_M_wholeRoot 7 = .ok (.ladd, 1) := by decide +kernel
theorem d_M_wholeRoot_8 : decode b_M_wholeRoot 8 = .ok (.lmul, 1) := by decide +kernel
theorem d_M_wholeRoot_9 : decode b_M_wholeRoot 9 = .ok (.lload_n 0, 1) := by decide +kernel
theorem d_M_wholeRoot_10 : decode b_M_wholeRoot 10 = .ok (.lcmp, 1) := by decide +kernel
theorem d_M_wholeRoot_11 : decode b_M_wholeRoot 11 = .ok (.ifCond .gt 10, 3) := by decide +kernel
theorem d_M_wholeRoot_14 : decode b_M_wholeRoot 14 = .ok (.lload_n 2, 1) := by decide +kernel
theorem d_M_wholeRoot_15 : decode b_M_wholeRoot 15 = .ok (.lconst 1, 1) := by decide +kernel
theorem d_M_wholeRoot_16 : decode b_M_wholeRoot 16 = .ok (.ladd, 1) := by decide +kernel
theorem d_M_wholeRoot_17 : decode b_M_wholeRoot 17 = .ok (.lstore_n 2, 1) := by decide +kernel
theorem d_M_wholeRoot_18 : decode b_M_wholeRoot 18 = .ok (.goto (-16), 3) := by decide +kernel
theorem d_M_wholeRoot_21 : decode b_M_wholeRoot 21 = .ok (.lload_n 2, 1) := by decide +kernel
theorem d_M_wholeRoot_22 : decode b_M_wholeRoot 22 = .ok (.lreturn, 1) := by decide +kernel
theorem d_M_get_0 : decode b_M_get 0 = .ok (.aload_n 0, 1) := by decide +kernel
theorem d_M_get_1 : decode b_M_get 1 = .ok (.getfield 15, 3) := by decide +kernel
theorem d_M_get_4 : decode b_M_get 4 = .ok (.sipush 1100, 3) := by decide +kernel
theorem d_M_get_7 : decode b_M_get 7 = .ok (.iload_n 1, 1) := by decide +kernel
theorem d_M_get_8 : decode b_M_get 8 = .ok (.imul, 1) := by decide +kernel
theorem d_M_get_9 : decode b_M_get 9 = .ok (.iload_n 2, 1) := by decide +kernel
theorem d_M_get_10 : decode b_M_get 10 = .ok (.iadd, 1) := by decide +kernel
theorem d_M_get_11 : decode b_M_get 11 = .ok (.iaload, 1) := by decide +kernel
theorem d_M_get_12 : decode b_M_get 12 = .ok (.ireturn, 1) := by decide +kernel
theorem d_M_put_0 : decode b_M_put 0 = .ok (.aload_n 0, 1) := by decide +kernel
theorem d_M_put_1 : decode b_M_put 1 = .ok (.getfield 15, 3) := by decide +kernel
theorem d_M_put_4 : decode b_M_put 4 = .ok (.sipush 1100, 3) := by decide +kernel
theorem d_M_put_7 : decode b_M_put 7 = .ok (.iload_n 1, 1) := by decide +kernel
theorem d_M_put_8 : decode b_M_put 8 = .ok (.imul, 1) := by decide +kernel
theorem d_M_put_9 : decode b_M_put 9 = .ok (.iload_n 2, 1) := by decide +kernel
theorem d_M_put_10 : decode b_M_put 10 = .ok (.iadd, 1) := by decide +kernel
theorem d_M_put_11 : decode b_M_put 11 = .ok (.iload_n 3, 1) := by decide +kernel
theorem d_M_put_12 : decode b_M_put 12 = .ok (.iastore, 1) := by decide +kernel
theorem d_M_put_13 : decode b_M_put 13 = .ok (.return_, 1) := by decide +kernel
theorem d_M_be_0 : decode b_M_be 0 = .ok (.iconst 0, 1) := by decide +kernel
theorem d_M_be_1 : decode b_M_be 1 = .ok (.istore 4, 2) := by decide +kernel
theorem d_M_be_3 : decode b_M_be 3 = .ok (.iload 4, 2) := by decide +kernel
theorem d_M_be_5 : decode b_M_be 5 = .ok (.sipush 1100, 3) := by decide +kernel
theorem d_M_be_8 : decode b_M_be 8 = .ok (.if_icmp .ge 41, 3) := by decide +kernel
theorem d_M_be_11 : decode b_M_be 11 = .ok (.aload_n 0, 1) := by decide +kernel
theorem d_M_be_12 : decode b_M_be 12 = .ok (.iload_n 1, 1) := by decide +kernel
theorem d_M_be_13 : decode b_M_be 13 = .ok (.iload 4, 2) := by decide +kernel
theorem d_M_be_15 : decode b_M_be 15 = .ok (.iload 4, 2) := by decide +kernel
theorem d_M_be_17 : decode b_M_be 17 = .ok (.iconst 4, 1) := by decide +kernel
theorem d_M_be_18 : decode b_M_be 18 = .ok (.if_icmp .ge 13, 3) := by decide +kernel
theorem d_M_be_21 : decode b_M_be 21 = .ok (.lload_n 2, 1) := by decide +kernel
theorem d_M_be_22 : decode b_M_be 22 = .ok (.bipush 16, 2) := by decide +kernel
theorem d_M_be_24 : decode b_M_be 24 = .ok (.iload 4, 2) := by decide +kernel
theorem d_M_be_26 : decode b_M_be 26 = .ok (.imul, 1) := by decide +kernel
theorem d_M_be_27 : decode b_M_be 27 = .ok (.lshr, 1) := by decide +kernel
theorem d_M_be_28 : decode b_M_be 28 = .ok (.goto 7, 3) := by decide +kernel
theorem d_M_be_31 : decode b_M_be 31 = .ok (.lload_n 2, 1) := by decide +kernel
theorem d_M_be_32 : decode b_M_be 32 = .ok (.bipush 63, 2) := by decide +kernel
theorem d_M_be_34 : decode b_M_be 34 = .ok (.lshr, 1) := by decide +kernel
theorem d_M_be_35 : decode b_M_be 35 = .ok (.ldc2_w 27, 3) := by decide +kernel
theorem d_M_be_38 : decode b_M_be 38 = .ok (.land, 1) := by decide +kernel
theorem d_M_be_39 : decode b_M_be 39 = .ok (.l2i, 1) := by decide +kernel
theorem d_M_be_40 : decode b_M_be 40 = .ok (.invokevirtual 29, 3) := by decide +kernel
theorem d_M_be_43 : decode b_M_be 43 = .ok (.iinc 4 1, 3) := by decide +kernel
theorem d_M_be_46 : decode b_M_be 46 = .ok (.goto (-43), 3) := by decide +kernel
theorem d_M_be_49 : decode b_M_be 49 = .ok (.return_, 1) := by decide +kernel
theorem d_M_copy_0 : decode b_M_copy 0 = .ok (.iconst 0, 1) := by decide +kernel
theorem d_M_copy_1 : decode b_M_copy 1 = .ok (.istore_n 3, 1) := by decide +kernel
theorem d_M_copy_2 : decode b_M_copy 2 = .ok (.iload_n 3, 1) := by decide +kernel
theorem d_M_copy_3 : decode b_M_copy 3 = .ok (.sipush 1100, 3) := by decide +kernel
theorem d_M_copy_6 : decode b_M_copy 6 = .ok (.if_icmp .ge 21, 3) := by decide +kernel
theorem d_M_copy_9 : decode b_M_copy 9 = .ok (.aload_n 0, 1) := by decide +kernel
theorem d_M_copy_10 : decode b_M_copy 10 = .ok (.iload_n 1, 1) := by decide +kernel
theorem d_M_copy_11 : decode b_M_copy 11 = .ok (.iload_n 3, 1) := by decide +kernel
theorem d_M_copy_12 : decode b_M_copy 12 = .ok (.aload_n 0, 1) := by decide +kernel
theorem d_M_copy_13 : decode b_M_copy 13 = .ok (.iload_n 2, 1) := by decide +kernel
theorem d_M_copy_14 : decode b_M_copy 14 = .ok (.iload_n 3, 1) := by decide +kernel
theorem d_M_copy_15 : decode b_M_copy 15 = .ok (.invokevirtual 33, 3) := by decide +kernel
theorem d_M_copy_18 : decode b_M_copy 18 = .ok (.invokevirtual 29, 3) := by decide +kernel
theorem d_M_copy_21 : decode b_M_copy 21 = .ok (.iinc 3 1, 3) := by decide +kernel
theorem d_M_copy_24 : decode b_M_copy 24 = .ok (.goto (-22), 3) := by decide +kernel
theorem d_M_copy_27 : decode b_M_copy 27 = .ok (.return_, 1) := by decide +kernel
theorem d_M_combine_0 : decode b_M_combine 0 = .ok (.lconst 0, 1) := by decide +kernel
theorem d_M_combine_1 : decode b_M_combine 1 = .ok (.lstore 8, 2) := by decide +kernel
theorem d_M_combine_3 : decode b_M_combine 3 = .ok (.iconst 0, 1) := by decide +kernel
theorem d_M_combine_4 : decode b_M_combine 4 = .ok (.istore 10, 2) := by decide +kernel
theorem d_M_combine_6 : decode b_M_combine 6 = .ok (.iload 10, 2) := by decide +kernel
theorem d_M_combine_8 : decode b_M_combine 8 = .ok (.sipush 1100, 3) := by decide +kernel
theorem d_M_combine_11 : decode b_M_combine 11 = .ok (.if_icmp .ge 59, 3) := by decide +kernel
theorem d_M_combine_14 : decode b_M_combine 14 = .ok (.lload_n 2, 1) := by decide +kernel
theorem d_M_combine_15 : decode b_M_combine 15 = .ok (.aload_n 0, 1) := by decide +kernel
theorem d_M_combine_16 : decode b_M_combine 16 = .ok (.iload 4, 2) := by decide +kernel
theorem d_M_combine_18 : decode b_M_combine 18 = .ok (.iload 10, 2) := by decide +kernel
theorem d_M_combine_20 : decode b_M_combine 20 = .ok (.invokevirtual 33, 3) := by decide +kernel
theorem d_M_combine_23 : decode b_M_combine 23 = .ok (.i2l, 1) := by decide +kernel
theorem d_M_combine_24 : decode b_M_combine 24 = .ok (.lmul, 1) := by decide +kernel
theorem d_M_combine_25 : decode b_M_combine 25 = .ok (.lload 5, 2) := by decide +kernel
theorem d_M_combine_27 : decode b_M_combine 27 = .ok (.aload_n 0, 1) := by decide +kernel
theorem d_M_combine_28 : decode b_M_combine 28 = .ok (.iload 7, 2) := by decide +kernel
theorem d_M_combine_30 : decode b_M_combine 30 = .ok (.iload 10, 2) := by decide +kernel
theorem d_M_combine_32 : decode b_M_combine 32 = .ok (.invokevirtual 33, 3) := by decide +kernel
theorem d_M_combine_35 : decode b_M_combine 35 = .ok (.i2l, 1) := by decide +kernel
theorem d_M_combine_36 : decode b_M_combine 36 = .ok (.lmul, 1) := by decide +kernel
theorem d_M_combine_37 : decode b_M_combine 37 = .ok (.ladd, 1) := by decide +kernel
theorem d_M_combine_38 : decode b_M_combine 38 = .ok (.lload 8, 2) := by decide +kernel
theorem d_M_combine_40 : decode b_M_combine 40 = .ok (.ladd, 1) := by decide +kernel
theorem d_M_combine_41 : decode b_M_combine 41 = .ok (.lstore 11, 2) := by decide +kernel
theorem d_M_combine_43 : decode b_M_combine 43 = .ok (.aload_n 0, 1) := by decide +kernel
theorem d_M_combine_44 : decode b_M_combine 44 = .ok (.iload_n 1, 1) := by decide +kernel
theorem d_M_combine_45 : decode b_M_combine 45 = .ok (.iload 10, 2) := by decide +kernel
theorem d_M_combine_47 : decode b_M_combine 47 = .ok (.lload 11, 2) := by decide +kernel
theorem d_M_combine_49 : decode b_M_combine 49 = .ok (.ldc2_w 27, 3) := by decide +kernel
theorem d_M_combine_52 : decode b_M_combine 52 = .ok (.land, 1) := by decide +kernel
theorem d_M_combine_53 : decode b_M_combine 53 = .ok (.l2i, 1) := by decide +kernel
theorem d_M_combine_54 : decode b_M_combine 54 = .ok (.invokevirtual 29, 3) := by decide +kernel
theorem d_M_combine_57 : decode b_M_combine 57 = .ok (.lload 11, 2) := by decide +kernel
theorem d_M_combine_59 : decode b_M_combine 59 = .ok (.bipush 16, 2) := by decide +kernel
theorem d_M_combine_61 : decode b_M_combine 61 = .ok (.lshr, 1) := by decide +kernel
theorem d_M_combine_62 : decode b_M_combine 62 = .ok (.lstore 8, 2) := by decide +kernel
theorem d_M_combine_64 : decode b_M_combine 64 = .ok (.iinc 10 1, 3) := by decide +kernel
theorem d_M_combine_67 : decode b_M_combine 67 = .ok (.goto (-61), 3) := by decide +kernel
theorem d_M_combine_70 : decode b_M_combine 70 = .ok (.return_, 1) := by decide +kernel
theorem d_M_halve_0 : decode b_M_halve 0 = .ok (.iconst 0, 1) := by decide +kernel
theorem d_M_halve_1 : decode b_M_halve 1 = .ok (.istore_n 2, 1) := by decide +kernel
theorem d_M_halve_2 : decode b_M_halve 2 = .ok (.iload_n 2, 1) := by decide +kernel
theorem d_M_halve_3 : decode b_M_halve 3 = .ok (.sipush 1100, 3) := by decide +kernel
theorem d_M_halve_6 : decode b_M_halve 6 = .ok (.if_icmp .ge 68, 3) := by decide +kernel
theorem d_M_halve_9 : decode b_M_halve 9 = .ok (.iload_n 2, 1) := by decide +kernel
theorem d_M_halve_10 : decode b_M_halve 10 = .ok (.iconst 1, 1) := by decide +kernel
theorem d_M_halve_11 : decode b_M_halve 11 = .ok (.iadd, 1) := by decide +kernel
theorem d_M_halve_12 : decode b_M_halve 12 = .ok (.sipush 1100, 3) := by decide +kernel
theorem d_M_halve_15 : decode b_M_halve 15 = .ok (.if_icmp .ge 14, 3) := by decide +kernel
theorem d_M_halve_18 : decode b_M_halve 18 = .ok (.aload_n 0, 1) := by decide +kernel
theorem d_M_halve_19 : decode b_M_halve 19 = .ok (.iload_n 1, 1) := by decide +kernel
theorem d_M_halve_20 : decode b_M_halve 20 = .ok (.iload_n 2, 1) := by decide +kernel
theorem d_M_halve_21 : decode b_M_halve 21 = .ok (.iconst 1, 1) := by decide +kernel
theorem d_M_halve_22 : decode b_M_halve 22 = .ok (.iadd, 1) := by decide +kernel
theorem d_M_halve_23 : decode b_M_halve 23 = .ok (.invokevirtual 33, 3) := by decide +kernel
theorem d_M_halve_26 : decode b_M_halve 26 = .ok (.goto 20, 3) := by decide +kernel
theorem d_M_halve_29 : decode b_M_halve 29 = .ok (.aload_n 0, 1) := by decide +kernel
theorem d_M_halve_30 : decode b_M_halve 30 = .ok (.iload_n 1, 1) := by decide +kernel
theorem d_M_halve_31 : decode b_M_halve 31 = .ok (.iload_n 2, 1) := by decide +kernel
theorem d_M_halve_32 : decode b_M_halve 32 = .ok (.invokevirtual 33, 3) := by decide +kernel
theorem d_M_halve_35 : decode b_M_halve 35 = .ok (.sipush 32767, 3) := by decide +kernel
theorem d_M_halve_38 : decode b_M_halve 38 = .ok (.if_icmp .le 7, 3) := by decide +kernel
theorem d_M_halve_41 : decode b_M_halve 41 = .ok (.iconst 1, 1) := by decide +kernel
theorem d_M_halve_42 : decode b_M_halve 42 = .ok (.goto 4, 3) := by decide +kernel
theorem d_M_halve_45 : decode b_M_halve 45 = .ok (.iconst 0, 1) := by decide +kernel
theorem d_M_halve_46 : decode b_M_halve 46 = .ok (.istore_n 3, 1) := by decide +kernel
theorem d_M_halve_47 : decode b_M_halve 47 = .ok (.aload_n 0, 1) := by decide +kernel
theorem d_M_halve_48 : decode b_M_halve 48 = .ok (.iload_n 1, 1) := by decide +kernel
theorem d_M_halve_49 : decode b_M_halve 49 = .ok (.iload_n 2, 1) := by decide +kernel
theorem d_M_halve_50 : decode b_M_halve 50 = .ok (.aload_n 0, 1) := by decide +kernel
theorem d_M_halve_51 : decode b_M_halve 51 = .ok (.iload_n 1, 1) := by decide +kernel
theorem d_M_halve_52 : decode b_M_halve 52 = .ok (.iload_n 2, 1) := by decide +kernel
theorem d_M_halve_53 : decode b_M_halve 53 = .ok (.invokevirtual 33, 3) := by decide +kernel
theorem d_M_halve_56 : decode b_M_halve 56 = .ok (.iconst 1, 1) := by decide +kernel
theorem d_M_halve_57 : decode b_M_halve 57 = .ok (.ishr, 1) := by decide +kernel
theorem d_M_halve_58 : decode b_M_halve 58 = .ok (.iload_n 3, 1) := by decide +kernel
theorem d_M_halve_59 : decode b_M_halve 59 = .ok (.iconst 1, 1) := by decide +kernel
theorem d_M_halve_60 : decode b_M_halve 60 = .ok (.iand, 1) := by decide +kernel
theorem d_M_halve_61 : decode b_M_halve 61 = .ok (.bipush 15, 2) := by decide +kernel
theorem d_M_halve_63 : decode b_M_halve 63 = .ok (.ishl, 1) := by decide +kernel
theorem d_M_halve_64 : decode b_M_halve 64 = .ok (.ior, 1) := by decide +kernel
theorem d_M_halve_65 : decode b_M_halve 65 = .ok (.invokevirtual 29, 3) := by decide +kernel
theorem d_M_halve_68 : decode b_M_halve 68 = .ok (.iinc 2 1, 3) := by decide +kernel
theorem d_M_halve_71 : decode b_M_halve 71 = .ok (.goto (-69), 3) := by decide +kernel
theorem d_M_halve_74 : decode b_M_halve 74 = .ok (.return_, 1) := by decide +kernel
theorem d_M_multiply_0 : decode b_M_multiply 0 = .ok (.lconst 0, 1) := by decide +kernel
theorem d_M_multiply_1 : decode b_M_multiply 1 = .ok (.lstore 4, 2) := by decide +kernel
theorem d_M_multiply_3 : decode b_M_multiply 3 = .ok (.aload_n 0, 1) := by decide +kernel
theorem d_M_multiply_4 : decode b_M_multiply 4 = .ok (.iload_n 2, 1) := by decide +kernel
theorem d_M_multiply_5 : decode b_M_multiply 5 = .ok (.invokevirtual 37, 3) := by decide +kernel
theorem d_M_multiply_8 : decode b_M_multiply 8 = .ok (.istore 6, 2) := by decide +kernel
theorem d_M_multiply_10 : decode b_M_multiply 10 = .ok (.aload_n 0, 1) := by decide +kernel
theorem d_M_multiply_11 : decode b_M_multiply 11 = .ok (.iload_n 3, 1) := by decide +kernel
theorem d_M_multiply_12 : decode b_M_multiply 12 = .ok (.invokevirtual 37, 3) := by decide +kernel
theorem d_M_multiply_15 : decode b_M_multiply 15 = .ok (.istore 7, 2) := by decide +kernel
theorem d_M_multiply_17 : decode b_M_multiply 17 = .ok (.iconst 0, 1) := by decide +kernel
theorem d_M_multiply_18 : decode b_M_multiply 18 = .ok (.istore 8, 2) := by decide +kernel
theorem d_M_multiply_20 : decode b_M_multiply 20 = .ok (.iload 8, 2) := by decide +kernel
theorem d_M_multiply_22 : decode b_M_multiply 22 = .ok (.sipush 1100, 3) := by decide +kernel
theorem d_M_multiply_25 : decode b_M_multiply 25 = .ok (.if_icmp .ge 99, 3) := by decide +kernel
theorem d_M_multiply_28 : decode b_M_multiply 28 = .ok (.lload 4, 2) := by decide +kernel
theorem d_M_multiply_30 : decode b_M_multiply 30 = .ok (.lstore 9, 2) := by decide +kernel
theorem d_M_multiply_32 : decode b_M_multiply 32 = .ok (.iload 8, 2) := by decide +kernel
theorem d_M_multiply_34 : decode b_M_multiply 34 = .ok (.iload 7, 2) := by decide +kernel
theorem d_M_multiply_36 : decode b_M_multiply 36 = .ok (.if_icmp .ge 7, 3) := by decide +kernel
theorem d_M_multiply_39 : decode b_M_multiply 39 = .ok (.iconst 0, 1) := by decide +kernel
theorem d_M_multiply_40 : decode b_M_multiply 40 = .ok (.goto 10, 3) := by decide +kernel
theorem d_M_multiply_43 : decode b_M_multiply 43 = .ok (.iload 8, 2) := by decide +kernel
theorem d_M_multiply_45 : decode b_M_multiply 45 = .ok (.iload 7, 2) := by decide +kernel
theorem d_M_multiply_47 : decode b_M_multiply 47 = .ok (.isub, 1) := by decide +kernel
theorem d_M_multiply_48 : decode b_M_multiply 48 = .ok (.iconst 1, 1) := by decide +kernel
theorem d_M_multiply_49 : decode b_M_multiply 49 = .ok (.iadd, 1) := by decide +kernel
theorem d_M_multiply_50 : decode b_M_multiply 50 = .ok (.istore 11, 2) := by decide +kernel
theorem d_M_multiply_52 : decode b_M_multiply 52 = .ok (.iload 11, 2) := by decide +kernel
theorem d_M_multiply_54 : decode b_M_multiply 54 = .ok (.iload 8, 2) := by decide +kernel
theorem d_M_multiply_56 : decode b_M_multiply 56 = .ok (.if_icmp .gt 41, 3) := by decide +kernel
theorem d_M_multiply_59 : decode b_M_multiply 59 = .ok (.iload 11, 2) := by decide +kernel
theorem d_M_multiply_61 : decode b_M_multiply 61 = .ok (.iload 6, 2) := by decide +kernel
theorem d_M_multiply_63 : decode b_M_multiply 63 = .ok (.if_icmp .ge 34, 3) := by decide +kernel
theorem d_M_multiply_66 : decode b_M_multiply 66 = .ok (.lload 9, 2) := by decide +kernel
theorem d_M_multiply_68 : decode b_M_multiply 68 = .ok (.aload_n 0, 1) := by decide +kernel
theorem d_M_multiply_69 : decode b_M_multiply 69 = .ok (.iload_n 2, 1) := by decide +kernel
theorem d_M_multiply_70 : decode b_M_multiply 70 = .ok (.iload 11, 2) := by decide +kernel
theorem d_M_multiply_72 : decode b_M_multiply 72 = .ok (.invokevirtual 33, 3) := by decide +kernel
theorem d_M_multiply_75 : decode b_M_multiply 75 = .ok (.i2l, 1) := by decide +kernel
theorem d_M_multiply_76 : decode b_M_multiply 76 = .ok (.aload_n 0, 1) := by decide +kernel
theorem d_M_multiply_77 : decode b_M_multiply 77 = .ok (.iload_n 3, 1) := by decide +kernel
theorem d_M_multiply_78 : decode b_M_multiply 78 = .ok (.iload 8, 2) := by decide +kernel
theorem d_M_multiply_80 : decode b_M_multiply 80 = .ok (.iload 11, 2) := by decide +kernel
theorem d_M_multiply_82 : decode b_M_multiply 82 = .ok (.isub, 1) := by decide +kernel
theorem d_M_multiply_83 : decode b_M_multiply 83 = .ok (.invokevirtual 33, 3) := by decide +kernel
theorem d_M_multiply_86 : decode b_M_multiply 86 = .ok (.i2l, 1) := by decide +kernel
theorem d_M_multiply_87 : decode b_M_multiply 87 = .ok (.lmul, 1) := by decide +kernel
theorem d_M_multiply_88 : decode b_M_multiply 88 = .ok (.ladd, 1) := by decide +kernel
theorem d_M_multiply_89 : decode b_M_multiply 89 = .ok (.lstore 9, 2) := by decide +kernel
theorem d_M_multiply_91 : decode b_M_multiply 91 = .ok (.iinc 11 1, 3) := by decide +kernel
theorem d_M_multiply_94 : decode b_M_multiply 94 = .ok (.goto (-42), 3) := by decide +kernel
theorem d_M_multiply_97 : decode b_M_multiply 97 = .ok (.aload_n 0, 1) := by decide +kernel
theorem d_M_multiply_98 : decode b_M_multiply 98 = .ok (.iload_n 1, 1) := by decide +kernel
theorem d_M_multiply_99 : decode b_M_multiply 99 = .ok (.iload 8, 2) := by decide +kernel
theorem d_M_multiply_101 : decode b_M_multiply 101 = .ok (.lload 9, 2) := by decide +kernel
theorem d_M_multiply_103 : decode b_M_multiply 103 = .ok (.ldc2_w 27, 3) := by decide +kernel
theorem d_M_multiply_106 : decode b_M_multiply 106 = .ok (.land, 1) := by decide +kernel
theorem d_M_multiply_107 : decode b_M_multiply 107 = .ok (.l2i, 1) := by decide +kernel
theorem d_M_multiply_108 : decode b_M_multiply 108 = .ok (.invokevirtual 29, 3) := by decide +kernel
theorem d_M_multiply_111 : decode b_M_multiply 111 = .ok (.lload 9, 2) := by decide +kernel
theorem d_M_multiply_113 : decode b_M_multiply 113 = .ok (.bipush 16, 2) := by decide +kernel
theorem d_M_multiply_115 : decode b_M_multiply 115 = .ok (.lshr, 1) := by decide +kernel
theorem d_M_multiply_116 : decode b_M_multiply 116 = .ok (.lstore 4, 2) := by decide +kernel
theorem d_M_multiply_118 : decode b_M_multiply 118 = .ok (.iinc 8 1, 3) := by decide +kernel
theorem d_M_multiply_121 : decode b_M_multiply 121 = .ok (.goto (-101), 3) := by decide +kernel
theorem d_M_multiply_124 : decode b_M_multiply 124 = .ok (.return_, 1) := by decide +kernel
theorem d_M_length_0 : decode b_M_length 0 = .ok (.sipush 1100, 3) := by decide +kernel
theorem d_M_length_3 : decode b_M_length 3 = .ok (.istore_n 2, 1) := by decide +kernel
theorem d_M_length_4 : decode b_M_length 4 = .ok (.iload_n 2, 1) := by decide +kernel
theorem d_M_length_5 : decode b_M_length 5 = .ok (.ifCond .le 20, 3) := by decide +kernel
theorem d_M_length_8 : decode b_M_length 8 = .ok (.aload_n 0, 1) := by decide +kernel
theorem d_M_length_9 : decode b_M_length 9 = .ok (.iload_n 1, 1) := by decide +kernel
theorem d_M_length_10 : decode b_M_length 10 = .ok (.iload_n 2, 1) := by decide +kernel
theorem d_M_length_11 : decode b_M_length 11 = .ok (.iconst 1, 1) := by decide +kernel
theorem d_M_length_12 : decode b_M_length 12 = .ok (.isub, 1) := by decide +kernel
theorem d_M_length_13 : decode b_M_length 13 = .ok (.invokevirtual 33, 3) := by decide +kernel
theorem d_M_length_16 : decode b_M_length 16 = .ok (.ifCond .ne 9, 3) := by decide +kernel
theorem d_M_length_19 : decode b_M_length 19 = .ok (.iinc 2 (-1), 3) := by decide +kernel
theorem d_M_length_22 : decode b_M_length 22 = .ok (.goto (-18), 3) := by decide +kernel
theorem d_M_length_25 : decode b_M_length 25 = .ok (.iload_n 2, 1) := by decide +kernel
theorem d_M_length_26 : decode b_M_length 26 = .ok (.ireturn, 1) := by decide +kernel
theorem d_M_isBelow_0 : decode b_M_isBelow 0 = .ok (.aload_n 0, 1) := by decide +kernel
theorem d_M_isBelow_1 : decode b_M_isBelow 1 = .ok (.iload_n 1, 1) := by decide +kernel
theorem d_M_isBelow_2 : decode b_M_isBelow 2 = .ok (.sipush 1099, 3) := by decide +kernel
theorem d_M_isBelow_5 : decode b_M_isBelow 5 = .ok (.invokevirtual 33, 3) := by decide +kernel
theorem d_M_isBelow_8 : decode b_M_isBelow 8 = .ok (.sipush 32767, 3) := by decide +kernel
theorem d_M_isBelow_11 : decode b_M_isBelow 11 = .ok (.if_icmp .le 7, 3) := by decide +kernel
theorem d_M_isBelow_14 : decode b_M_isBelow 14 = .ok (.iconst 1, 1) := by decide +kernel
theorem d_M_isBelow_15 : decode b_M_isBelow 15 = .ok (.goto 4, 3) := by decide +kernel
theorem d_M_isBelow_18 : decode b_M_isBelow 18 = .ok (.iconst 0, 1) := by decide +kernel
theorem d_M_isBelow_19 : decode b_M_isBelow 19 = .ok (.ireturn, 1) := by decide +kernel
theorem d_M_begin_0 : decode b_M_begin 0 = .ok (.aload_n 0, 1) := by decide +kernel
theorem d_M_begin_1 : decode b_M_begin 1 = .ok (.lload_n 1, 1) := by decide +kernel
theorem d_M_begin_2 : decode b_M_begin 2 = .ok (.putfield 9, 3) := by decide +kernel
theorem d_M_begin_5 : decode b_M_begin 5 = .ok (.aload_n 0, 1) := by decide +kernel
theorem d_M_begin_6 : decode b_M_begin 6 = .ok (.iconst 0, 1) := by decide +kernel
theorem d_M_begin_7 : decode b_M_begin 7 = .ok (.putfield 41, 3) := by decide +kernel
theorem d_M_begin_10 : decode b_M_begin 10 = .ok (.aload_n 0, 1) := by decide +kernel
theorem d_M_begin_11 : decode b_M_begin 11 = .ok (.iconst 0, 1) := by decide +kernel
theorem d_M_begin_12 : decode b_M_begin 12 = .ok (.putfield 44, 3) := by decide +kernel
theorem d_M_begin_15 : decode b_M_begin 15 = .ok (.aload_n 0, 1) := by decide +kernel
theorem d_M_begin_16 : decode b_M_begin 16 = .ok (.bipush 6, 2) := by decide +kernel
theorem d_M_begin_18 : decode b_M_begin 18 = .ok (.lconst 0, 1) := by decide +kernel
theorem d_M_begin_19 : decode b_M_begin 19 = .ok (.invokevirtual 48, 3) := by decide +kernel
theorem d_M_begin_22 : decode b_M_begin 22 = .ok (.aload_n 0, 1) := by decide +kernel
theorem d_M_begin_23 : decode b_M_begin 23 = .ok (.bipush 7, 2) := by decide +kernel
theorem d_M_begin_25 : decode b_M_begin 25 = .ok (.lconst 0, 1) := by decide +kernel
theorem d_M_begin_26 : decode b_M_begin 26 = .ok (.invokevirtual 48, 3) := by decide +kernel
theorem d_M_begin_29 : decode b_M_begin 29 = .ok (.aload_n 0, 1) := by decide +kernel
theorem d_M_begin_30 : decode b_M_begin 30 = .ok (.getfield 9, 3) := by decide +kernel
theorem d_M_begin_33 : decode b_M_begin 33 = .ok (.lconst 0, 1) := by decide +kernel
theorem d_M_begin_34 : decode b_M_begin 34 = .ok (.lcmp, 1) := by decide +kernel
theorem d_M_begin_35 : decode b_M_begin 35 = .ok (.ifCond .ge 76, 3) := by decide +kernel
theorem d_M_begin_38 : decode b_M_begin 38 = .ok (.aload_n 0, 1) := by decide +kernel
theorem d_M_begin_39 : decode b_M_begin 39 = .ok (.iconst 0, 1) := by decide +kernel
theorem d_M_begin_40 : decode b_M_begin 40 = .ok (.aload_n 0, 1) := by decide +kernel
theorem d_M_begin_41 : decode b_M_begin 41 = .ok (.getfield 9, 3) := by decide +kernel
theorem d_M_begin_44 : decode b_M_begin 44 = .ok (.ldc2_w 52, 3) := by decide +kernel
theorem d_M_begin_47 : decode b_M_begin 47 = .ok (.lcmp, 1) := by decide +kernel
theorem d_M_begin_48 : decode b_M_begin 48 = .ok (.ifCond .ne 7, 3) := by decide +kernel
theorem d_M_begin_51 : decode b_M_begin 51 = .ok (.lconst 1, 1) := by decide +kernel
theorem d_M_begin_52 : decode b_M_begin 52 = .ok (.goto 21, 3) := by decide +kernel
theorem d_M_begin_55 : decode b_M_begin 55 = .ok (.aload_n 0, 1) := by decide +kernel
theorem d_M_begin_56 : decode b_M_begin 56 = .ok (.getfield 9, 3) := by decide +kernel
theorem d_M_begin_59 : decode b_M_begin 59 = .ok (.ldc2_w 7, 3) := by decide +kernel
theorem d_M_begin_62 : decode b_M_begin 62 = .ok (.lcmp, 1) := by decide +kernel
theorem d_M_begin_63 : decode b_M_begin 63 = .ok (.ifCond .ne 7, 3) := by decide +kernel
theorem d_M_begin_66 : decode b_M_begin 66 = .ok (.lconst 0, 1) := by decide +kernel
theorem d_M_begin_67 : decode b_M_begin 67 = .ok (.goto 6, 3) := by decide +kernel
theorem d_M_begin_70 : decode b_M_begin 70 = .ok (.ldc2_w 54, 3) := by decide +kernel
theorem d_M_begin_73 : decode b_M_begin 73 = .ok (.invokevirtual 48, 3) := by decide +kernel
theorem d_M_begin_76 : decode b_M_begin 76 = .ok (.aload_n 0, 1) := by decide +kernel
theorem d_M_begin_77 : decode b_M_begin 77 = .ok (.iconst 1, 1) := by decide +kernel
theorem d_M_begin_78 : decode b_M_begin 78 = .ok (.aload_n 0, 1) := by decide +kernel
theorem d_M_begin_79 : decode b_M_begin 79 = .ok (.getfield 9, 3) := by decide +kernel
theorem d_M_begin_82 : decode b_M_begin 82 = .ok (.ldc2_w 52, 3) := by decide +kernel
theorem d_M_begin_85 : decode b_M_begin 85 = .ok (.lcmp, 1) := by decide +kernel
theorem d_M_begin_86 : decode b_M_begin 86 = .ok (.ifCond .eq 14, 3) := by decide +kernel
theorem d_M_begin_89 : decode b_M_begin 89 = .ok (.aload_n 0, 1) := by decide +kernel
theorem d_M_begin_90 : decode b_M_begin 90 = .ok (.getfield 9, 3) := by decide +kernel
theorem d_M_begin_93 : decode b_M_begin 93 = .ok (.ldc2_w 7, 3) := by decide +kernel
theorem d_M_begin_96 : decode b_M_begin 96 = .ok (.lcmp, 1) := by decide +kernel
theorem d_M_begin_97 : decode b_M_begin 97 = .ok (.ifCond .ne 7, 3) := by decide +kernel
theorem d_M_begin_100 : decode b_M_begin 100 = .ok (.lconst 1, 1) := by decide +kernel
theorem d_M_begin_101 : decode b_M_begin 101 = .ok (.goto 4, 3) := by decide +kernel
theorem d_M_begin_104 : decode b_M_begin 104 = .ok (.lconst 0, 1) := by decide +kernel
theorem d_M_begin_105 : decode b_M_begin 105 = .ok (.invokevirtual 48, 3) := by decide +kernel
theorem d_M_begin_108 : decode b_M_begin 108 = .ok (.goto 7, 3) := by decide +kernel
theorem d_M_begin_111 : decode b_M_begin 111 = .ok (.aload_n 0, 1) := by decide +kernel
theorem d_M_begin_112 : decode b_M_begin 112 = .ok (.invokevirtual 56, 3) := by decide +kernel
theorem d_M_begin_115 : decode b_M_begin 115 = .ok (.aload_n 0, 1) := by decide +kernel
theorem d_M_begin_116 : decode b_M_begin 116 = .ok (.getfield 9, 3) := by decide +kernel
theorem d_M_begin_119 : decode b_M_begin 119 = .ok (.ldc2_w 54, 3) := by decide +kernel
theorem d_M_begin_122 : decode b_M_begin 122 = .ok (.lrem, 1) := by decide +kernel
theorem d_M_begin_123 : decode b_M_begin 123 = .ok (.lconst 0, 1) := by decide +kernel
theorem d_M_begin_124 : decode b_M_begin 124 = .ok (.lcmp, 1) := by decide +kernel
theorem d_M_begin_125 : decode b_M_begin 125 = .ok (.ifCond .ne 7, 3) := by decide +kernel
theorem d_M_begin_128 : decode b_M_begin 128 = .ok (.lconst 0, 1) := by decide +kernel
theorem d_M_begin_129 : decode b_M_begin 129 = .ok (.goto 4, 3) := by decide +kernel
theorem d_M_begin_132 : decode b_M_begin 132 = .ok (.lconst 1, 1) := by decide +kernel
theorem d_M_begin_133 : decode b_M_begin 133 = .ok (.lstore_n 3, 1) := by decide +kernel
theorem d_M_begin_134 : decode b_M_begin 134 = .ok (.aload_n 0, 1) := by decide +kernel
theorem d_M_begin_135 : decode b_M_begin 135 = .ok (.lconst 1, 1) := by decide +kernel
theorem d_M_begin_136 : decode b_M_begin 136 = .ok (.lload_n 3, 1) := by decide +kernel
theorem d_M_begin_137 : decode b_M_begin 137 = .ok (.lload_n 3, 1) := by decide +kernel
theorem d_M_begin_138 : decode b_M_begin 138 = .ok (.aload_n 0, 1) := by decide +kernel
theorem d_M_begin_139 : decode b_M_begin 139 = .ok (.getfield 9, 3) := by decide +kernel
theorem d_M_begin_142 : decode b_M_begin 142 = .ok (.lsub, 1) := by decide +kernel
theorem d_M_begin_143 : decode b_M_begin 143 = .ok (.ldc2_w 59, 3) := by decide +kernel
theorem d_M_begin_146 : decode b_M_begin 146 = .ok (.ldiv, 1) := by decide +kernel
theorem d_M_begin_147 : decode b_M_begin 147 = .ok (.invokevirtual 61, 3) := by decide +kernel
theorem d_M_begin_150 : decode b_M_begin 150 = .ok (.return_, 1) := by decide +kernel
theorem d_M_find_0 : decode b_M_find 0 = .ok (.aload_n 0, 1) := by decide +kernel
theorem d_M_find_1 : decode b_M_find 1 = .ok (.getfield 9, 3) := by decide +kernel
theorem d_M_find_4 : decode b_M_find 4 = .ok (.invokestatic 65, 3) := by decide +kernel
theorem d_M_find_7 : decode b_M_find 7 = .ok (.lstore_n 1, 1) := by decide +kernel
theorem d_M_find_8 : decode b_M_find 8 = .ok (.lload_n 1, 1) := by decide +kernel
theorem d_M_find_9 : decode b_M_find 9 = .ok (.ldc2_w 54, 3) := by decide +kernel
theorem d_M_find_12 : decode b_M_find 12 = .ok (.lrem, 1) := by decide +kernel
theorem d_M_find_13 : decode b_M_find 13 = .ok (.aload_n 0, 1) := by decide +kernel
theorem d_M_find_14 : decode b_M_find 14 = .ok (.getfield 9, 3) := by decide +kernel
theorem d_M_find_17 : decode b_M_find 17 = .ok (.ldc2_w 54, 3) := by decide +kernel
theorem d_M_find_20 : decode b_M_find 20 = .ok (.lrem, 1) := by decide +kernel
theorem d_M_find_21 : decode b_M_find 21 = .ok (.lcmp, 1) := by decide +kernel
theorem d_M_find_22 : decode b_M_find 22 = .ok (.ifCond .ne 7, 3) := by decide +kernel
theorem d_M_find_25 : decode b_M_find 25 = .ok (.lload_n 1, 1) := by decide +kernel
theorem d_M_find_26 : decode b_M_find 26 = .ok (.goto 6, 3) := by decide +kernel
theorem d_M_find_29 : decode b_M_find 29 = .ok (.lload_n 1, 1) := by decide +kernel
theorem d_M_find_30 : decode b_M_find 30 = .ok (.lconst 1, 1) := by decide +kernel
theorem d_M_find_31 : decode b_M_find 31 = .ok (.lsub, 1) := by decide +kernel
theorem d_M_find_32 : decode b_M_find 32 = .ok (.lstore_n 3, 1) := by decide +kernel
theorem d_M_find_33 : decode b_M_find 33 = .ok (.lload_n 3, 1) := by decide +kernel
theorem d_M_find_34 : decode b_M_find 34 = .ok (.lstore 5, 2) := by decide +kernel
theorem d_M_find_36 : decode b_M_find 36 = .ok (.ldc2_w 54, 3) := by decide +kernel
theorem d_M_find_39 : decode b_M_find 39 = .ok (.lstore 7, 2) := by decide +kernel
theorem d_M_find_41 : decode b_M_find 41 = .ok (.aload_n 0, 1) := by decide +kernel
theorem d_M_find_42 : decode b_M_find 42 = .ok (.bipush 8, 2) := by decide +kernel
theorem d_M_find_44 : decode b_M_find 44 = .ok (.lconst 0, 1) := by decide +kernel
theorem d_M_find_45 : decode b_M_find 45 = .ok (.invokevirtual 48, 3) := by decide +kernel
theorem d_M_find_48 : decode b_M_find 48 = .ok (.aload_n 0, 1) := by decide +kernel
theorem d_M_find_49 : decode b_M_find 49 = .ok (.bipush 9, 2) := by decide +kernel
theorem d_M_find_51 : decode b_M_find 51 = .ok (.lconst 1, 1) := by decide +kernel
theorem d_M_find_52 : decode b_M_find 52 = .ok (.invokevirtual 48, 3) := by decide +kernel
theorem d_M_find_55 : decode b_M_find 55 = .ok (.iconst 0, 1) := by decide +kernel
theorem d_M_find_56 : decode b_M_find 56 = .ok (.istore 9, 2) := by decide +kernel
theorem d_M_find_58 : decode b_M_find 58 = .ok (.iconst 1, 1) := by decide +kernel
theorem d_M_find_59 : decode b_M_find 59 = .ok (.istore 10, 2) := by decide +kernel
theorem d_M_find_61 : decode b_M_find 61 = .ok (.iload 10, 2) := by decide +kernel
theorem d_M_find_63 : decode b_M_find 63 = .ok (.ifCond .eq 95, 3) := by decide +kernel
theorem d_M_find_66 : decode b_M_find 66 = .ok (.lload 5, 2) := by decide +kernel
theorem d_M_find_68 : decode b_M_find 68 = .ok (.lload_n 1, 1) := by decide +kernel
theorem d_M_find_69 : decode b_M_find 69 = .ok (.ladd, 1) := by decide +kernel
theorem d_M_find_70 : decode b_M_find 70 = .ok (.lload 7, 2) := by decide +kernel
theorem d_M_find_72 : decode b_M_find 72 = .ok (.ldiv, 1) := by decide +kernel
theorem d_M_find_73 : decode b_M_find 73 = .ok (.lstore 11, 2) := by decide +kernel
theorem d_M_find_75 : decode b_M_find 75 = .ok (.aload_n 0, 1) := by decide +kernel
theorem d_M_find_76 : decode b_M_find 76 = .ok (.bipush 10, 2) := by decide +kernel
theorem d_M_find_78 : decode b_M_find 78 = .ok (.lload 11, 2) := by decide +kernel
theorem d_M_find_80 : decode b_M_find 80 = .ok (.bipush 8, 2) := by decide +kernel
theorem d_M_find_82 : decode b_M_find 82 = .ok (.lconst 1, 1) := by decide +kernel
theorem d_M_find_83 : decode b_M_find 83 = .ok (.bipush 9, 2) := by decide +kernel
theorem d_M_find_85 : decode b_M_find 85 = .ok (.invokevirtual 69, 3) := by decide +kernel
theorem d_M_find_88 : decode b_M_find 88 = .ok (.aload_n 0, 1) := by decide +kernel
theorem d_M_find_89 : decode b_M_find 89 = .ok (.bipush 9, 2) := by decide +kernel
theorem d_M_find_91 : decode b_M_find 91 = .ok (.bipush 8, 2) := by decide +kernel
theorem d_M_find_93 : decode b_M_find 93 = .ok (.invokevirtual 73, 3) := by decide +kernel
theorem d_M_find_96 : decode b_M_find 96 = .ok (.aload_n 0, 1) := by decide +kernel
theorem d_M_find_97 : decode b_M_find 97 = .ok (.bipush 8, 2) := by decide +kernel
theorem d_M_find_99 : decode b_M_find 99 = .ok (.bipush 10, 2) := by decide +kernel
theorem d_M_find_101 : decode b_M_find 101 = .ok (.invokevirtual 73, 3) := by decide +kernel
theorem d_M_find_104 : decode b_M_find 104 = .ok (.lload 11, 2) := by decide +kernel
theorem d_M_find_106 : decode b_M_find 106 = .ok (.lload 7, 2) := by decide +kernel
theorem d_M_find_108 : decode b_M_find 108 = .ok (.lmul, 1) := by decide +kernel
theorem d_M_find_109 : decode b_M_find 109 = .ok (.lload 5, 2) := by decide +kernel
theorem d_M_find_111 : decode b_M_find 111 = .ok (.lsub, 1) := by decide +kernel
theorem d_M_find_112 : decode b_M_find 112 = .ok (.lstore 5, 2) := by decide +kernel
theorem d_M_find_114 : decode b_M_find 114 = .ok (.aload_n 0, 1) := by decide +kernel
theorem d_M_find_115 : decode b_M_find 115 = .ok (.getfield 9, 3) := by decide +kernel
theorem d_M_find_118 : decode b_M_find 118 = .ok (.lload 5, 2) := by decide +kernel
theorem d_M_find_120 : decode b_M_find 120 = .ok (.lload 5, 2) := by decide +kernel
theorem d_M_find_122 : decode b_M_find 122 = .ok (.lmul, 1) := by decide +kernel
theorem d_M_find_123 : decode b_M_find 123 = .ok (.lsub, 1) := by decide +kernel
theorem d_M_find_124 : decode b_M_find 124 = .ok (.lload 7, 2) := by decide +kernel
theorem d_M_find_126 : decode b_M_find 126 = .ok (.ldiv, 1) := by decide +kernel
theorem d_M_find_127 : decode b_M_find 127 = .ok (.lstore 7, 2) := by decide +kernel
theorem d_M_find_129 : decode b_M_find 129 = .ok (.iinc 9 1, 3) := by decide +kernel
theorem d_M_find_132 : decode b_M_find 132 = .ok (.lload 5, 2) := by decide +kernel
theorem d_M_find_134 : decode b_M_find 134 = .ok (.lload_n 3, 1) := by decide +kernel
theorem d_M_find_135 : decode b_M_find 135 = .ok (.lcmp, 1) := by decide +kernel
theorem d_M_find_136 : decode b_M_find 136 = .ok (.ifCond .ne 12, 3) := by decide +kernel
theorem d_M_find_139 : decode b_M_find 139 = .ok (.lload 7, 2) := by decide +kernel
theorem d_M_find_141 : decode b_M_find 141 = .ok (.ldc2_w 54, 3) := by decide +kernel
theorem d_M_find_144 : decode b_M_find 144 = .ok (.lcmp, 1) := by decide +kernel
theorem d_M_find_145 : decode b_M_find 145 = .ok (.ifCond .eq 7, 3) := by decide +kernel
theorem d_M_find_148 : decode b_M_find 148 = .ok (.iconst 1, 1) := by decide +kernel
theorem d_M_find_149 : decode b_M_find 149 = .ok (.goto 4, 3) := by decide +kernel
theorem d_M_find_152 : decode b_M_find 152 = .ok (.iconst 0, 1) := by decide +kernel
theorem d_M_find_153 : decode b_M_find 153 = .ok (.istore 10, 2) := by decide +kernel
theorem d_M_find_155 : decode b_M_find 155 = .ok (.goto (-94), 3) := by decide +kernel
theorem d_M_find_158 : decode b_M_find 158 = .ok (.aload_n 0, 1) := by decide +kernel
theorem d_M_find_159 : decode b_M_find 159 = .ok (.iconst 0, 1) := by decide +kernel
theorem d_M_find_160 : decode b_M_find 160 = .ok (.ldc2_w 54, 3) := by decide +kernel
theorem d_M_find_163 : decode b_M_find 163 = .ok (.bipush 9, 2) := by decide +kernel
theorem d_M_find_165 : decode b_M_find 165 = .ok (.lload_n 3, 1) := by decide +kernel
theorem d_M_find_166 : decode b_M_find 166 = .ok (.bipush 8, 2) := by decide +kernel
theorem d_M_find_168 : decode b_M_find 168 = .ok (.invokevirtual 69, 3) := by decide +kernel
theorem d_M_find_171 : decode b_M_find 171 = .ok (.aload_n 0, 1) := by decide +kernel
theorem d_M_find_172 : decode b_M_find 172 = .ok (.iconst 1, 1) := by decide +kernel
theorem d_M_find_173 : decode b_M_find 173 = .ok (.bipush 8, 2) := by decide +kernel
theorem d_M_find_175 : decode b_M_find 175 = .ok (.invokevirtual 73, 3) := by decide +kernel
theorem d_M_find_178 : decode b_M_find 178 = .ok (.aload_n 0, 1) := by decide +kernel
theorem d_M_find_179 : decode b_M_find 179 = .ok (.iload 9, 2) := by decide +kernel
theorem d_M_find_181 : decode b_M_find 181 = .ok (.putfield 41, 3) := by decide +kernel
theorem d_M_find_184 : decode b_M_find 184 = .ok (.iload 9, 2) := by decide +kernel
theorem d_M_find_186 : decode b_M_find 186 = .ok (.iconst 2, 1) := by decide +kernel
theorem d_M_find_187 : decode b_M_find 187 = .ok (.irem, 1) := by decide +kernel
theorem d_M_find_188 : decode b_M_find 188 = .ok (.ifCond .ne 4, 3) := by decide +kernel
theorem d_M_find_191 : decode b_M_find 191 = .ok (.return_, 1) := by decide +kernel
theorem d_M_find_192 : decode b_M_find 192 = .ok (.aload_n 0, 1) := by decide +kernel
theorem d_M_find_193 : decode b_M_find 193 = .ok (.iconst 2, 1) := by decide +kernel
theorem d_M_find_194 : decode b_M_find 194 = .ok (.iload 9, 2) := by decide +kernel
theorem d_M_find_196 : decode b_M_find 196 = .ok (.imul, 1) := by decide +kernel
theorem d_M_find_197 : decode b_M_find 197 = .ok (.putfield 41, 3) := by decide +kernel
theorem d_M_find_200 : decode b_M_find 200 = .ok (.aload_n 0, 1) := by decide +kernel
theorem d_M_find_201 : decode b_M_find 201 = .ok (.iconst 1, 1) := by decide +kernel
theorem d_M_find_202 : decode b_M_find 202 = .ok (.putfield 44, 3) := by decide +kernel
theorem d_M_find_205 : decode b_M_find 205 = .ok (.aload_n 0, 1) := by decide +kernel
theorem d_M_find_206 : decode b_M_find 206 = .ok (.bipush 6, 2) := by decide +kernel
theorem d_M_find_208 : decode b_M_find 208 = .ok (.iconst 0, 1) := by decide +kernel
theorem d_M_find_209 : decode b_M_find 209 = .ok (.invokevirtual 73, 3) := by decide +kernel
theorem d_M_find_212 : decode b_M_find 212 = .ok (.aload_n 0, 1) := by decide +kernel
theorem d_M_find_213 : decode b_M_find 213 = .ok (.bipush 7, 2) := by decide +kernel
theorem d_M_find_215 : decode b_M_find 215 = .ok (.iconst 1, 1) := by decide +kernel
theorem d_M_find_216 : decode b_M_find 216 = .ok (.invokevirtual 73, 3) := by decide +kernel
theorem d_M_find_219 : decode b_M_find 219 = .ok (.aload_n 0, 1) := by decide +kernel
theorem d_M_find_220 : decode b_M_find 220 = .ok (.iconst 1, 1) := by decide +kernel
theorem d_M_find_221 : decode b_M_find 221 = .ok (.bipush 6, 2) := by decide +kernel
theorem d_M_find_223 : decode b_M_find 223 = .ok (.bipush 7, 2) := by decide +kernel
theorem d_M_find_225 : decode b_M_find 225 = .ok (.invokevirtual 77, 3) := by decide +kernel
theorem d_M_find_228 : decode b_M_find 228 = .ok (.aload_n 0, 1) := by decide +kernel
theorem d_M_find_229 : decode b_M_find 229 = .ok (.iconst 0, 1) := by decide +kernel
theorem d_M_find_230 : decode b_M_find 230 = .ok (.bipush 6, 2) := by decide +kernel
theorem d_M_find_232 : decode b_M_find 232 = .ok (.bipush 6, 2) := by decide +kernel
theorem d_M_find_234 : decode b_M_find 234 = .ok (.invokevirtual 77, 3) := by decide +kernel
theorem d_M_find_237 : decode b_M_find 237 = .ok (.aload_n 0, 1) := by decide +kernel
theorem d_M_find_238 : decode b_M_find 238 = .ok (.bipush 10, 2) := by decide +kernel
theorem d_M_find_240 : decode b_M_find 240 = .ok (.lconst 1, 1) := by decide +kernel
theorem d_M_find_241 : decode b_M_find 241 = .ok (.invokevirtual 48, 3) := by decide +kernel
theorem d_M_find_244 : decode b_M_find 244 = .ok (.aload_n 0, 1) := by decide +kernel
theorem d_M_find_245 : decode b_M_find 245 = .ok (.iconst 0, 1) := by decide +kernel
theorem d_M_find_246 : decode b_M_find 246 = .ok (.lconst 1, 1) := by decide +kernel
theorem d_M_find_247 : decode b_M_find 247 = .ok (.iconst 0, 1) := by decide +kernel
theorem d_M_find_248 : decode b_M_find 248 = .ok (.ldc2_w 54, 3) := by decide +kernel
theorem d_M_find_251 : decode b_M_find 251 = .ok (.bipush 10, 2) := by decide +kernel
theorem d_M_find_253 : decode b_M_find 253 = .ok (.invokevirtual 69, 3) := by decide +kernel
theorem d_M_find_256 : decode b_M_find 256 = .ok (.return_, 1) := by decide +kernel
theorem d_M_turn_0 : decode b_M_turn 0 = .ok (.aload_n 0, 1) := by decide +kernel
theorem d_M_turn_1 : decode b_M_turn 1 = .ok (.iconst 2, 1) := by decide +kernel
theorem d_M_turn_2 : decode b_M_turn 2 = .ok (.lconst 1, 1) := by decide +kernel
theorem d_M_turn_3 : decode b_M_turn 3 = .ok (.iconst 0, 1) := by decide +kernel
theorem d_M_turn_4 : decode b_M_turn 4 = .ok (.lload_n 3, 1) := by decide +kernel
theorem d_M_turn_5 : decode b_M_turn 5 = .ok (.lneg, 1) := by decide +kernel
theorem d_M_turn_6 : decode b_M_turn 6 = .ok (.iconst 1, 1) := by decide +kernel
theorem d_M_turn_7 : decode b_M_turn 7 = .ok (.invokevirtual 69, 3) := by decide +kernel
theorem d_M_turn_10 : decode b_M_turn 10 = .ok (.aload_n 0, 1) := by decide +kernel
theorem d_M_turn_11 : decode b_M_turn 11 = .ok (.iconst 2, 1) := by decide +kernel
theorem d_M_turn_12 : decode b_M_turn 12 = .ok (.invokevirtual 80, 3) := by decide +kernel
theorem d_M_turn_15 : decode b_M_turn 15 = .ok (.aload_n 0, 1) := by decide +kernel
theorem d_M_turn_16 : decode b_M_turn 16 = .ok (.iconst 3, 1) := by decide +kernel
theorem d_M_turn_17 : decode b_M_turn 17 = .ok (.lload 5, 2) := by decide +kernel
theorem d_M_turn_19 : decode b_M_turn 19 = .ok (.lneg, 1) := by decide +kernel
theorem d_M_turn_20 : decode b_M_turn 20 = .ok (.iconst 1, 1) := by decide +kernel
theorem d_M_turn_21 : decode b_M_turn 21 = .ok (.lconst 0, 1) := by decide +kernel
theorem d_M_turn_22 : decode b_M_turn 22 = .ok (.iconst 1, 1) := by decide +kernel
theorem d_M_turn_23 : decode b_M_turn 23 = .ok (.invokevirtual 69, 3) := by decide +kernel
theorem d_M_turn_26 : decode b_M_turn 26 = .ok (.aload_n 0, 1) := by decide +kernel
theorem d_M_turn_27 : decode b_M_turn 27 = .ok (.iconst 4, 1) := by decide +kernel
theorem d_M_turn_28 : decode b_M_turn 28 = .ok (.lload_n 1, 1) := by decide +kernel
theorem d_M_turn_29 : decode b_M_turn 29 = .ok (.iconst 1, 1) := by decide +kernel
theorem d_M_turn_30 : decode b_M_turn 30 = .ok (.lconst 0, 1) := by decide +kernel
theorem d_M_turn_31 : decode b_M_turn 31 = .ok (.iconst 1, 1) := by decide +kernel
theorem d_M_turn_32 : decode b_M_turn 32 = .ok (.invokevirtual 69, 3) := by decide +kernel
theorem d_M_turn_35 : decode b_M_turn 35 = .ok (.aload_n 0, 1) := by decide +kernel
theorem d_M_turn_36 : decode b_M_turn 36 = .ok (.iconst 5, 1) := by decide +kernel
theorem d_M_turn_37 : decode b_M_turn 37 = .ok (.lconst 1, 1) := by decide +kernel
theorem d_M_turn_38 : decode b_M_turn 38 = .ok (.iconst 0, 1) := by decide +kernel
theorem d_M_turn_39 : decode b_M_turn 39 = .ok (.lload_n 3, 1) := by decide +kernel
theorem d_M_turn_40 : decode b_M_turn 40 = .ok (.iconst 1, 1) := by decide +kernel
theorem d_M_turn_41 : decode b_M_turn 41 = .ok (.invokevirtual 69, 3) := by decide +kernel
theorem d_M_turn_44 : decode b_M_turn 44 = .ok (.aload_n 0, 1) := by decide +kernel
theorem d_M_turn_45 : decode b_M_turn 45 = .ok (.iconst 5, 1) := by decide +kernel
theorem d_M_turn_46 : decode b_M_turn 46 = .ok (.invokevirtual 80, 3) := by decide +kernel
theorem d_M_turn_49 : decode b_M_turn 49 = .ok (.return_, 1) := by decide +kernel
theorem d_M_take_0 : decode b_M_take 0 = .ok (.iload_n 1, 1) := by decide +kernel
theorem d_M_take_1 : decode b_M_take 1 = .ok (.ifCond .ge 7, 3) := by decide +kernel
theorem d_M_take_4 : decode b_M_take 4 = .ok (.lconst 0, 1) := by decide +kernel
theorem d_M_take_5 : decode b_M_take 5 = .ok (.goto 8, 3) := by decide +kernel
theorem d_M_take_8 : decode b_M_take 8 = .ok (.iload_n 1, 1) := by decide +kernel
theorem d_M_take_9 : decode b_M_take 9 = .ok (.i2l, 1) := by decide +kernel
theorem d_M_take_10 : decode b_M_take 10 = .ok (.invokestatic 65, 3) := by decide +kernel
theorem d_M_take_13 : decode b_M_take 13 = .ok (.lstore_n 2, 1) := by decide +kernel
theorem d_M_take_14 : decode b_M_take 14 = .ok (.iload_n 1, 1) := by decide +kernel
theorem d_M_take_15 : decode b_M_take 15 = .ok (.iconst 4, 1) := by decide +kernel
theorem d_M_take_16 : decode b_M_take 16 = .ok (.irem, 1) := by decide +kernel
theorem d_M_take_17 : decode b_M_take 17 = .ok (.ifCond .ge 11, 3) := by decide +kernel
theorem d_M_take_20 : decode b_M_take 20 = .ok (.iload_n 1, 1) := by decide +kernel
theorem d_M_take_21 : decode b_M_take 21 = .ok (.iconst 4, 1) := by decide +kernel
theorem d_M_take_22 : decode b_M_take 22 = .ok (.irem, 1) := by decide +kernel
theorem d_M_take_23 : decode b_M_take 23 = .ok (.iconst 4, 1) := by decide +kernel
theorem d_M_take_24 : decode b_M_take 24 = .ok (.iadd, 1) := by decide +kernel
theorem d_M_take_25 : decode b_M_take 25 = .ok (.goto 6, 3) := by decide +kernel
theorem d_M_take_28 : decode b_M_take 28 = .ok (.iload_n 1, 1) := by decide +kernel
theorem d_M_take_29 : decode b_M_take 29 = .ok (.iconst 4, 1) := by decide +kernel
theorem d_M_take_30 : decode b_M_take 30 = .ok (.irem, 1) := by decide +kernel
theorem d_M_take_31 : decode b_M_take 31 = .ok (.istore 4, 2) := by decide +kernel
theorem d_M_take_33 : decode b_M_take 33 = .ok (.aload_n 0, 1) := by decide +kernel
theorem d_M_take_34 : decode b_M_take 34 = .ok (.iload_n 1, 1) := by decide +kernel
theorem d_M_take_35 : decode b_M_take 35 = .ok (.i2l, 1) := by decide +kernel
theorem d_M_take_36 : decode b_M_take 36 = .ok (.ldc2_w 84, 3) := by decide +kernel
theorem d_M_take_39 : decode b_M_take 39 = .ok (.ldc2_w 86, 3) := by decide +kernel
theorem d_M_take_42 : decode b_M_take 42 = .ok (.invokestatic 88, 3) := by decide +kernel
theorem d_M_take_45 : decode b_M_take 45 = .ok (.ifCond .eq 26, 3) := by decide +kernel
theorem d_M_take_48 : decode b_M_take 48 = .ok (.iload 4, 2) := by decide +kernel
theorem d_M_take_50 : decode b_M_take 50 = .ok (.iconst 2, 1) := by decide +kernel
theorem d_M_take_51 : decode b_M_take 51 = .ok (.if_icmp .ge 20, 3) := by decide +kernel
theorem d_M_take_54 : decode b_M_take 54 = .ok (.iload_n 1, 1) := by decide +kernel
theorem d_M_take_55 : decode b_M_take 55 = .ok (.ifCond .lt 12, 3) := by decide +kernel
theorem d_M_take_58 : decode b_M_take 58 = .ok (.lload_n 2, 1) := by decide +kernel
theorem d_M_take_59 : decode b_M_take 59 = .ok (.lload_n 2, 1) := by decide +kernel
theorem d_M_take_60 : decode b_M_take 60 = .ok (.lmul, 1) := by decide +kernel
theorem d_M_take_61 : decode b_M_take 61 = .ok (.iload_n 1, 1) := by decide +kernel
theorem d_M_take_62 : decode b_M_take 62 = .ok (.i2l, 1) := by decide +kernel
theorem d_M_take_63 : decode b_M_take 63 = .ok (.lcmp, 1) := by decide +kernel
theorem d_M_take_64 : decode b_M_take 64 = .ok (.ifCond .eq 7, 3) := by decide +kernel
theorem d_M_take_67 : decode b_M_take 67 = .ok (.iconst 0, 1) := by decide +kernel
theorem d_M_take_68 : decode b_M_take 68 = .ok (.goto 4, 3) := by decide +kernel
theorem d_M_take_71 : decode b_M_take 71 = .ok (.iconst 1, 1) := by decide +kernel
theorem d_M_take_72 : decode b_M_take 72 = .ok (.putfield 23, 3) := by decide +kernel
theorem d_M_take_75 : decode b_M_take 75 = .ok (.aload_n 0, 1) := by decide +kernel
theorem d_M_take_76 : decode b_M_take 76 = .ok (.getfield 23, 3) := by decide +kernel
theorem d_M_take_79 : decode b_M_take 79 = .ok (.ifCond .le 5, 3) := by decide +kernel
theorem d_M_take_82 : decode b_M_take 82 = .ok (.iconst 0, 1) := by decide +kernel
theorem d_M_take_83 : decode b_M_take 83 = .ok (.ireturn, 1) := by decide +kernel
theorem d_M_take_84 : decode b_M_take 84 = .ok (.aload_n 0, 1) := by decide +kernel
theorem d_M_take_85 : decode b_M_take 85 = .ok (.iload_n 1, 1) := by decide +kernel
theorem d_M_take_86 : decode b_M_take 86 = .ok (.i2l, 1) := by decide +kernel
theorem d_M_take_87 : decode b_M_take 87 = .ok (.invokevirtual 19, 3) := by decide +kernel
theorem d_M_take_90 : decode b_M_take 90 = .ok (.aload_n 0, 1) := by decide +kernel
theorem d_M_take_91 : decode b_M_take 91 = .ok (.iconst 0, 1) := by decide +kernel
theorem d_M_take_92 : decode b_M_take 92 = .ok (.invokevirtual 92, 3) := by decide +kernel
theorem d_M_take_95 : decode b_M_take 95 = .ok (.ireturn, 1) := by decide +kernel
theorem d_M_count_0 : decode b_M_count 0 = .ok (.aload_n 0, 1) := by decide +kernel
theorem d_M_count_1 : decode b_M_count 1 = .ok (.iconst 0, 1) := by decide +kernel
theorem d_M_count_2 : decode b_M_count 2 = .ok (.putfield 23, 3) := by decide +kernel
theorem d_M_count_5 : decode b_M_count 5 = .ok (.iload_n 1, 1) := by decide +kernel
theorem d_M_count_6 : decode b_M_count 6 = .ok (.tableswitch 100 0 3 #[30, 36, 41, 54], 30) := by decide +kernel
theorem d_M_count_36 : decode b_M_count 36 = .ok (.aload_n 0, 1) := by decide +kernel
theorem d_M_count_37 : decode b_M_count 37 = .ok (.getfield 9, 3) := by decide +kernel
theorem d_M_count_40 : decode b_M_count 40 = .ok (.l2i, 1) := by decide +kernel
theorem d_M_count_41 : decode b_M_count 41 = .ok (.ireturn, 1) := by decide +kernel
theorem d_M_count_42 : decode b_M_count 42 = .ok (.aload_n 0, 1) := by decide +kernel
theorem d_M_count_43 : decode b_M_count 43 = .ok (.getfield 41, 3) := by decide +kernel
theorem d_M_count_46 : decode b_M_count 46 = .ok (.ireturn, 1) := by decide +kernel
theorem d_M_count_47 : decode b_M_count 47 = .ok (.aload_n 0, 1) := by decide +kernel
theorem d_M_count_48 : decode b_M_count 48 = .ok (.getfield 44, 3) := by decide +kernel
theorem d_M_count_51 : decode b_M_count 51 = .ok (.ifCond .eq 7, 3) := by decide +kernel
theorem d_M_count_54 : decode b_M_count 54 = .ok (.iconst 1, 1) := by decide +kernel
theorem d_M_count_55 : decode b_M_count 55 = .ok (.goto 4, 3) := by decide +kernel
theorem d_M_count_58 : decode b_M_count 58 = .ok (.iconst 0, 1) := by decide +kernel
theorem d_M_count_59 : decode b_M_count 59 = .ok (.ireturn, 1) := by decide +kernel
theorem d_M_count_60 : decode b_M_count 60 = .ok (.aload_n 0, 1) := by decide +kernel
theorem d_M_count_61 : decode b_M_count 61 = .ok (.getfield 9, 3) := by decide +kernel
theorem d_M_count_64 : decode b_M_count 64 = .ok (.lconst 0, 1) := by decide +kernel
theorem d_M_count_65 : decode b_M_count 65 = .ok (.lcmp, 1) := by decide +kernel
theorem d_M_count_66 : decode b_M_count 66 = .ok (.ifCond .le 7, 3) := by decide +kernel
theorem d_M_count_69 : decode b_M_count 69 = .ok (.iconst (-1), 1) := by decide +kernel
theorem d_M_count_70 : decode b_M_count 70 = .ok (.goto 35, 3) := by decide +kernel
theorem d_M_count_73 : decode b_M_count 73 = .ok (.aload_n 0, 1) := by decide +kernel
theorem d_M_count_74 : decode b_M_count 74 = .ok (.getfield 9, 3) := by decide +kernel
theorem d_M_count_77 : decode b_M_count 77 = .ok (.ldc2_w 52, 3) := by decide +kernel
theorem d_M_count_80 : decode b_M_count 80 = .ok (.lcmp, 1) := by decide +kernel
theorem d_M_count_81 : decode b_M_count 81 = .ok (.ifCond .ne 8, 3) := by decide +kernel
theorem d_M_count_84 : decode b_M_count 84 = .ok (.bipush 6, 2) := by decide +kernel
theorem d_M_count_86 : decode b_M_count 86 = .ok (.goto 19, 3) := by decide +kernel
theorem d_M_count_89 : decode b_M_count 89 = .ok (.aload_n 0, 1) := by decide +kernel
theorem d_M_count_90 : decode b_M_count 90 = .ok (.getfield 9, 3) := by decide +kernel
theorem d_M_count_93 : decode b_M_count 93 = .ok (.ldc2_w 7, 3) := by decide +kernel
theorem d_M_count_96 : decode b_M_count 96 = .ok (.lcmp, 1) := by decide +kernel
theorem d_M_count_97 : decode b_M_count 97 = .ok (.ifCond .ne 7, 3) := by decide +kernel
theorem d_M_count_100 : decode b_M_count 100 = .ok (.iconst 4, 1) := by decide +kernel
theorem d_M_count_101 : decode b_M_count 101 = .ok (.goto 4, 3) := by decide +kernel
theorem d_M_count_104 : decode b_M_count 104 = .ok (.iconst 2, 1) := by decide +kernel
theorem d_M_count_105 : decode b_M_count 105 = .ok (.ireturn, 1) := by decide +kernel
theorem d_M_count_106 : decode b_M_count 106 = .ok (.iconst (-1), 1) := by decide +kernel
theorem d_M_count_107 : decode b_M_count 107 = .ok (.ireturn, 1) := by decide +kernel
theorem d_M_common_0 : decode b_M_common 0 = .ok (.lload_n 0, 1) := by decide +kernel
theorem d_M_common_1 : decode b_M_common 1 = .ok (.lconst 0, 1) := by decide +kernel
theorem d_M_common_2 : decode b_M_common 2 = .ok (.lcmp, 1) := by decide +kernel
theorem d_M_common_3 : decode b_M_common 3 = .ok (.ifCond .ge 8, 3) := by decide +kernel
theorem d_M_common_6 : decode b_M_common 6 = .ok (.lload_n 0, 1) := by decide +kernel
theorem d_M_common_7 : decode b_M_common 7 = .ok (.lneg, 1) := by decide +kernel
theorem d_M_common_8 : decode b_M_common 8 = .ok (.goto 4, 3) := by decide +kernel
theorem d_M_common_11 : decode b_M_common 11 = .ok (.lload_n 0, 1) := by decide +kernel
theorem d_M_common_12 : decode b_M_common 12 = .ok (.lstore 4, 2) := by decide +kernel
theorem d_M_common_14 : decode b_M_common 14 = .ok (.lload_n 2, 1) := by decide +kernel
theorem d_M_common_15 : decode b_M_common 15 = .ok (.lconst 0, 1) := by decide +kernel
theorem d_M_common_16 : decode b_M_common 16 = .ok (.lcmp, 1) := by decide +kernel
theorem d_M_common_17 : decode b_M_common 17 = .ok (.ifCond .ge 8, 3) := by decide +kernel
theorem d_M_common_20 : decode b_M_common 20 = .ok (.lload_n 2, 1) := by decide +kernel
theorem d_M_common_21 : decode b_M_common 21 = .ok (.lneg, 1) := by decide +kernel
theorem d_M_common_22 : decode b_M_common 22 = .ok (.goto 4, 3) := by decide +kernel
theorem d_M_common_25 : decode b_M_common 25 = .ok (.lload_n 2, 1) := by decide +kernel
theorem d_M_common_26 : decode b_M_common 26 = .ok (.lstore 6, 2) := by decide +kernel
theorem d_M_common_28 : decode b_M_common 28 = .ok (.lload 6, 2) := by decide +kernel
theorem d_M_common_30 : decode b_M_common 30 = .ok (.lconst 0, 1) := by decide +kernel
theorem d_M_common_31 : decode b_M_common 31 = .ok (.lcmp, 1) := by decide +kernel
theorem d_M_common_32 : decode b_M_common 32 = .ok (.ifCond .le 21, 3) := by decide +kernel
theorem d_M_common_35 : decode b_M_common 35 = .ok (.lload 4, 2) := by decide +kernel
theorem d_M_common_37 : decode b_M_common 37 = .ok (.lload 6, 2) := by decide +kernel
theorem d_M_common_39 : decode b_M_common 39 = .ok (.lrem, 1) := by decide +kernel
theorem d_M_common_40 : decode b_M_common 40 = .ok (.lstore 8, 2) := by decide +kernel
theorem d_M_common_42 : decode b_M_common 42 = .ok (.lload 6, 2) := by decide +kernel
theorem d_M_common_44 : decode b_M_common 44 = .ok (.lstore 4, 2) := by decide +kernel
theorem d_M_common_46 : decode b_M_common 46 = .ok (.lload 8, 2) := by decide +kernel
theorem d_M_common_48 : decode b_M_common 48 = .ok (.lstore 6, 2) := by decide +kernel
theorem d_M_common_50 : decode b_M_common 50 = .ok (.goto (-22), 3) := by decide +kernel
theorem d_M_common_53 : decode b_M_common 53 = .ok (.lload 4, 2) := by decide +kernel
theorem d_M_common_55 : decode b_M_common 55 = .ok (.lreturn, 1) := by decide +kernel
theorem d_M_ask_0 : decode b_M_ask 0 = .ok (.iload_n 1, 1) := by decide +kernel
theorem d_M_ask_1 : decode b_M_ask 1 = .ok (.i2l, 1) := by decide +kernel
theorem d_M_ask_2 : decode b_M_ask 2 = .ok (.ldc2_w 95, 3) := by decide +kernel
theorem d_M_ask_5 : decode b_M_ask 5 = .ok (.ldc2_w 97, 3) := by decide +kernel
theorem d_M_ask_8 : decode b_M_ask 8 = .ok (.invokestatic 88, 3) := by decide +kernel
theorem d_M_ask_11 : decode b_M_ask 11 = .ok (.ifCond .eq 35, 3) := by decide +kernel
theorem d_M_ask_14 : decode b_M_ask 14 = .ok (.iload_n 2, 1) := by decide +kernel
theorem d_M_ask_15 : decode b_M_ask 15 = .ok (.i2l, 1) := by decide +kernel
theorem d_M_ask_16 : decode b_M_ask 16 = .ok (.ldc2_w 95, 3) := by decide +kernel
theorem d_M_ask_19 : decode b_M_ask 19 = .ok (.ldc2_w 97, 3) := by decide +kernel
theorem d_M_ask_22 : decode b_M_ask 22 = .ok (.invokestatic 88, 3) := by decide +kernel
theorem d_M_ask_25 : decode b_M_ask 25 = .ok (.ifCond .eq 21, 3) := by decide +kernel
theorem d_M_ask_28 : decode b_M_ask 28 = .ok (.iload_n 3, 1) := by decide +kernel
theorem d_M_ask_29 : decode b_M_ask 29 = .ok (.i2l, 1) := by decide +kernel
theorem d_M_ask_30 : decode b_M_ask 30 = .ok (.ldc2_w 95, 3) := by decide +kernel
theorem d_M_ask_33 : decode b_M_ask 33 = .ok (.ldc2_w 97, 3) := by decide +kernel
theorem d_M_ask_36 : decode b_M_ask 36 = .ok (.invokestatic 88, 3) := by decide +kernel
theorem d_M_ask_39 : decode b_M_ask 39 = .ok (.ifCond .eq 7, 3) := by decide +kernel
theorem d_M_ask_42 : decode b_M_ask 42 = .ok (.iconst 1, 1) := by decide +kernel
theorem d_M_ask_43 : decode b_M_ask 43 = .ok (.goto 4, 3) := by decide +kernel
theorem d_M_ask_46 : decode b_M_ask 46 = .ok (.iconst 0, 1) := by decide +kernel
theorem d_M_ask_47 : decode b_M_ask 47 = .ok (.istore 4, 2) := by decide +kernel
theorem d_M_ask_49 : decode b_M_ask 49 = .ok (.iload 4, 2) := by decide +kernel
theorem d_M_ask_51 : decode b_M_ask 51 = .ok (.ifCond .eq 47, 3) := by decide +kernel
theorem d_M_ask_54 : decode b_M_ask 54 = .ok (.iload_n 2, 1) := by decide +kernel
theorem d_M_ask_55 : decode b_M_ask 55 = .ok (.i2l, 1) := by decide +kernel
theorem d_M_ask_56 : decode b_M_ask 56 = .ok (.iload_n 2, 1) := by decide +kernel
theorem d_M_ask_57 : decode b_M_ask 57 = .ok (.i2l, 1) := by decide +kernel
theorem d_M_ask_58 : decode b_M_ask 58 = .ok (.lmul, 1) := by decide +kernel
theorem d_M_ask_59 : decode b_M_ask 59 = .ok (.ldc2_w 59, 3) := by decide +kernel
theorem d_M_ask_62 : decode b_M_ask 62 = .ok (.iload_n 1, 1) := by decide +kernel
theorem d_M_ask_63 : decode b_M_ask 63 = .ok (.i2l, 1) := by decide +kernel
theorem d_M_ask_64 : decode b_M_ask 64 = .ok (.lmul, 1) := by decide +kernel
theorem d_M_ask_65 : decode b_M_ask 65 = .ok (.iload_n 3, 1) := by decide +kernel
theorem d_M_ask_66 : decode b_M_ask 66 = .ok (.i2l, 1) := by decide +kernel
theorem d_M_ask_67 : decode b_M_ask 67 = .ok (.lmul, 1) := by decide +kernel
theorem d_M_ask_68 : decode b_M_ask 68 = .ok (.lsub, 1) := by decide +kernel
theorem d_M_ask_69 : decode b_M_ask 69 = .ok (.aload_n 0, 1) := by decide +kernel
theorem d_M_ask_70 : decode b_M_ask 70 = .ok (.getfield 9, 3) := by decide +kernel
theorem d_M_ask_73 : decode b_M_ask 73 = .ok (.lcmp, 1) := by decide +kernel
theorem d_M_ask_74 : decode b_M_ask 74 = .ok (.ifCond .ne 24, 3) := by decide +kernel
theorem d_M_ask_77 : decode b_M_ask 77 = .ok (.iload_n 1, 1) := by decide +kernel
theorem d_M_ask_78 : decode b_M_ask 78 = .ok (.i2l, 1) := by decide +kernel
theorem d_M_ask_79 : decode b_M_ask 79 = .ok (.iload_n 2, 1) := by decide +kernel
theorem d_M_ask_80 : decode b_M_ask 80 = .ok (.i2l, 1) := by decide +kernel
theorem d_M_ask_81 : decode b_M_ask 81 = .ok (.invokestatic 99, 3) := by decide +kernel
theorem d_M_ask_84 : decode b_M_ask 84 = .ok (.iload_n 3, 1) := by decide +kernel
theorem d_M_ask_85 : decode b_M_ask 85 = .ok (.i2l, 1) := by decide +kernel
theorem d_M_ask_86 : decode b_M_ask 86 = .ok (.invokestatic 99, 3) := by decide +kernel
theorem d_M_ask_89 : decode b_M_ask 89 = .ok (.lconst 1, 1) := by decide +kernel
theorem d_M_ask_90 : decode b_M_ask 90 = .ok (.lcmp, 1) := by decide +kernel
theorem d_M_ask_91 : decode b_M_ask 91 = .ok (.ifCond .ne 7, 3) := by decide +kernel
theorem d_M_ask_94 : decode b_M_ask 94 = .ok (.iconst 1, 1) := by decide +kernel
theorem d_M_ask_95 : decode b_M_ask 95 = .ok (.goto 4, 3) := by decide +kernel
theorem d_M_ask_98 : decode b_M_ask 98 = .ok (.iconst 0, 1) := by decide +kernel
theorem d_M_ask_99 : decode b_M_ask 99 = .ok (.istore 4, 2) := by decide +kernel
theorem d_M_ask_101 : decode b_M_ask 101 = .ok (.aload_n 0, 1) := by decide +kernel
theorem d_M_ask_102 : decode b_M_ask 102 = .ok (.iload 4, 2) := by decide +kernel
theorem d_M_ask_104 : decode b_M_ask 104 = .ok (.ifCond .eq 7, 3) := by decide +kernel
theorem d_M_ask_107 : decode b_M_ask 107 = .ok (.iconst 0, 1) := by decide +kernel
theorem d_M_ask_108 : decode b_M_ask 108 = .ok (.goto 4, 3) := by decide +kernel
theorem d_M_ask_111 : decode b_M_ask 111 = .ok (.iconst 1, 1) := by decide +kernel
theorem d_M_ask_112 : decode b_M_ask 112 = .ok (.putfield 23, 3) := by decide +kernel
theorem d_M_ask_115 : decode b_M_ask 115 = .ok (.iload 4, 2) := by decide +kernel
theorem d_M_ask_117 : decode b_M_ask 117 = .ok (.ifCond .eq 13, 3) := by decide +kernel
theorem d_M_ask_120 : decode b_M_ask 120 = .ok (.aload_n 0, 1) := by decide +kernel
theorem d_M_ask_121 : decode b_M_ask 121 = .ok (.iload_n 1, 1) := by decide +kernel
theorem d_M_ask_122 : decode b_M_ask 122 = .ok (.i2l, 1) := by decide +kernel
theorem d_M_ask_123 : decode b_M_ask 123 = .ok (.iload_n 2, 1) := by decide +kernel
theorem d_M_ask_124 : decode b_M_ask 124 = .ok (.i2l, 1) := by decide +kernel
theorem d_M_ask_125 : decode b_M_ask 125 = .ok (.iload_n 3, 1) := by decide +kernel
theorem d_M_ask_126 : decode b_M_ask 126 = .ok (.i2l, 1) := by decide +kernel
theorem d_M_ask_127 : decode b_M_ask 127 = .ok (.invokevirtual 61, 3) := by decide +kernel
theorem d_M_ask_130 : decode b_M_ask 130 = .ok (.return_, 1) := by decide +kernel
theorem d_M_times_0 : decode b_M_times 0 = .ok (.aload_n 0, 1) := by decide +kernel
theorem d_M_times_1 : decode b_M_times 1 = .ok (.getfield 103, 3) := by decide +kernel
theorem d_M_times_4 : decode b_M_times 4 = .ok (.lload_n 1, 1) := by decide +kernel
theorem d_M_times_5 : decode b_M_times 5 = .ok (.lmul, 1) := by decide +kernel
theorem d_M_times_6 : decode b_M_times 6 = .ok (.lload 9, 2) := by decide +kernel
theorem d_M_times_8 : decode b_M_times 8 = .ok (.lrem, 1) := by decide +kernel
theorem d_M_times_9 : decode b_M_times 9 = .ok (.aload_n 0, 1) := by decide +kernel
theorem d_M_times_10 : decode b_M_times 10 = .ok (.getfield 106, 3) := by decide +kernel
theorem d_M_times_13 : decode b_M_times 13 = .ok (.lload 5, 2) := by decide +kernel
theorem d_M_times_15 : decode b_M_times 15 = .ok (.lmul, 1) := by decide +kernel
theorem d_M_times_16 : decode b_M_times 16 = .ok (.lload 9, 2) := by decide +kernel
theorem d_M_times_18 : decode b_M_times 18 = .ok (.lrem, 1) := by decide +kernel
theorem d_M_times_19 : decode b_M_times 19 = .ok (.ladd, 1) := by decide +kernel
theorem d_M_times_20 : decode b_M_times 20 = .ok (.lload 9, 2) := by decide +kernel
theorem d_M_times_22 : decode b_M_times 22 = .ok (.lrem, 1) := by decide +kernel
theorem d_M_times_23 : decode b_M_times 23 = .ok (.lstore 11, 2) := by decide +kernel
theorem d_M_times_25 : decode b_M_times 25 = .ok (.aload_n 0, 1) := by decide +kernel
theorem d_M_times_26 : decode b_M_times 26 = .ok (.getfield 103, 3) := by decide +kernel
theorem d_M_times_29 : decode b_M_times 29 = .ok (.lload_n 3, 1) := by decide +kernel
theorem d_M_times_30 : decode b_M_times 30 = .ok (.lmul, 1) := by decide +kernel
theorem d_M_times_31 : decode b_M_times 31 = .ok (.lload 9, 2) := by decide +kernel
theorem d_M_times_33 : decode b_M_times 33 = .ok (.lrem, 1) := by decide +kernel
theorem d_M_times_34 : decode b_M_times 34 = .ok (.aload_n 0, 1) := by decide +kernel
theorem d_M_times_35 : decode b_M_times 35 = .ok (.getfield 106, 3) := by decide +kernel
theorem d_M_times_38 : decode b_M_times 38 = .ok (.lload 7, 2) := by decide +kernel
theorem d_M_times_40 : decode b_M_times 40 = .ok (.lmul, 1) := by decide +kernel
theorem d_M_times_41 : decode b_M_times 41 = .ok (.lload 9, 2) := by decide +kernel
theorem d_M_times_43 : decode b_M_times 43 = .ok (.lrem, 1) := by decide +kernel
theorem d_M_times_44 : decode b_M_times 44 = .ok (.ladd, 1) := by decide +kernel
theorem d_M_times_45 : decode b_M_times 45 = .ok (.lload 9, 2) := by decide +kernel
theorem d_M_times_47 : decode b_M_times 47 = .ok (.lrem, 1) := by decide +kernel
theorem d_M_times_48 : decode b_M_times 48 = .ok (.lstore 13, 2) := by decide +kernel
theorem d_M_times_50 : decode b_M_times 50 = .ok (.aload_n 0, 1) := by decide +kernel
theorem d_M_times_51 : decode b_M_times 51 = .ok (.getfield 109, 3) := by decide +kernel
theorem d_M_times_54 : decode b_M_times 54 = .ok (.lload_n 1, 1) := by decide +kernel
theorem d_M_times_55 : decode b_M_times 55 = .ok (.lmul, 1) := by decide +kernel
theorem d_M_times_56 : decode b_M_times 56 = .ok (.lload 9, 2) := by decide +kernel
theorem d_M_times_58 : decode b_M_times 58 = .ok (.lrem, 1) := by decide +kernel
theorem d_M_times_59 : decode b_M_times 59 = .ok (.aload_n 0, 1) := by decide +kernel
theorem d_M_times_60 : decode b_M_times 60 = .ok (.getfield 112, 3) := by decide +kernel
theorem d_M_times_63 : decode b_M_times 63 = .ok (.lload 5, 2) := by decide +kernel
theorem d_M_times_65 : decode b_M_times 65 = .ok (.lmul, 1) := by decide +kernel
theorem d_M_times_66 : decode b_M_times 66 = .ok (.lload 9, 2) := by decide +kernel
theorem d_M_times_68 : decode b_M_times 68 = .ok (.lrem, 1) := by decide +kernel
theorem d_M_times_69 : decode b_M_times 69 = .ok (.ladd, 1) := by decide +kernel
theorem d_M_times_70 : decode b_M_times 70 = .ok (.lload 9, 2) := by decide +kernel
theorem d_M_times_72 : decode b_M_times 72 = .ok (.lrem, 1) := by decide +kernel
theorem d_M_times_73 : decode b_M_times 73 = .ok (.lstore 15, 2) := by decide +kernel
theorem d_M_times_75 : decode b_M_times 75 = .ok (.aload_n 0, 1) := by decide +kernel
theorem d_M_times_76 : decode b_M_times 76 = .ok (.getfield 109, 3) := by decide +kernel
theorem d_M_times_79 : decode b_M_times 79 = .ok (.lload_n 3, 1) := by decide +kernel
theorem d_M_times_80 : decode b_M_times 80 = .ok (.lmul, 1) := by decide +kernel
theorem d_M_times_81 : decode b_M_times 81 = .ok (.lload 9, 2) := by decide +kernel
theorem d_M_times_83 : decode b_M_times 83 = .ok (.lrem, 1) := by decide +kernel
theorem d_M_times_84 : decode b_M_times 84 = .ok (.aload_n 0, 1) := by decide +kernel
theorem d_M_times_85 : decode b_M_times 85 = .ok (.getfield 112, 3) := by decide +kernel
theorem d_M_times_88 : decode b_M_times 88 = .ok (.lload 7, 2) := by decide +kernel
theorem d_M_times_90 : decode b_M_times 90 = .ok (.lmul, 1) := by decide +kernel
theorem d_M_times_91 : decode b_M_times 91 = .ok (.lload 9, 2) := by decide +kernel
theorem d_M_times_93 : decode b_M_times 93 = .ok (.lrem, 1) := by decide +kernel
theorem d_M_times_94 : decode b_M_times 94 = .ok (.ladd, 1) := by decide +kernel
theorem d_M_times_95 : decode b_M_times 95 = .ok (.lload 9, 2) := by decide +kernel
theorem d_M_times_97 : decode b_M_times 97 = .ok (.lrem, 1) := by decide +kernel
theorem d_M_times_98 : decode b_M_times 98 = .ok (.lstore 17, 2) := by decide +kernel
theorem d_M_times_100 : decode b_M_times 100 = .ok (.aload_n 0, 1) := by decide +kernel
theorem d_M_times_101 : decode b_M_times 101 = .ok (.lload 11, 2) := by decide +kernel
theorem d_M_times_103 : decode b_M_times 103 = .ok (.putfield 103, 3) := by decide +kernel
theorem d_M_times_106 : decode b_M_times 106 = .ok (.aload_n 0, 1) := by decide +kernel
theorem d_M_times_107 : decode b_M_times 107 = .ok (.lload 13, 2) := by decide +kernel
theorem d_M_times_109 : decode b_M_times 109 = .ok (.putfield 106, 3) := by decide +kernel
theorem d_M_times_112 : decode b_M_times 112 = .ok (.aload_n 0, 1) := by decide +kernel
theorem d_M_times_113 : decode b_M_times 113 = .ok (.lload 15, 2) := by decide +kernel
theorem d_M_times_115 : decode b_M_times 115 = .ok (.putfield 109, 3) := by decide +kernel
theorem d_M_times_118 : decode b_M_times 118 = .ok (.aload_n 0, 1) := by decide +kernel
theorem d_M_times_119 : decode b_M_times 119 = .ok (.lload 17, 2) := by decide +kernel
theorem d_M_times_121 : decode b_M_times 121 = .ok (.putfield 112, 3) := by decide +kernel
theorem d_M_times_124 : decode b_M_times 124 = .ok (.return_, 1) := by decide +kernel
theorem d_M_power_0 : decode b_M_power 0 = .ok (.aload_n 0, 1) := by decide +kernel
theorem d_M_power_1 : decode b_M_power 1 = .ok (.iload_n 1, 1) := by decide +kernel
theorem d_M_power_2 : decode b_M_power 2 = .ok (.ifCond .lt 18, 3) := by decide +kernel
theorem d_M_power_5 : decode b_M_power 5 = .ok (.iload_n 2, 1) := by decide +kernel
theorem d_M_power_6 : decode b_M_power 6 = .ok (.iconst 1, 1) := by decide +kernel
theorem d_M_power_7 : decode b_M_power 7 = .ok (.if_icmp .lt 13, 3) := by decide +kernel
theorem d_M_power_10 : decode b_M_power 10 = .ok (.iload_n 3, 1) := by decide +kernel
theorem d_M_power_11 : decode b_M_power 11 = .ok (.i2l, 1) := by decide +kernel
theorem d_M_power_12 : decode b_M_power 12 = .ok (.lconst 0, 1) := by decide +kernel
theorem d_M_power_13 : decode b_M_power 13 = .ok (.lconst 1, 1) := by decide +kernel
theorem d_M_power_14 : decode b_M_power 14 = .ok (.invokestatic 88, 3) := by decide +kernel
theorem d_M_power_17 : decode b_M_power 17 = .ok (.ifCond .ne 7, 3) := by decide +kernel
theorem d_M_power_20 : decode b_M_power 20 = .ok (.iconst 1, 1) := by decide +kernel
theorem d_M_power_21 : decode b_M_power 21 = .ok (.goto 4, 3) := by decide +kernel
theorem d_M_power_24 : decode b_M_power 24 = .ok (.iconst 0, 1) := by decide +kernel
theorem d_M_power_25 : decode b_M_power 25 = .ok (.putfield 23, 3) := by decide +kernel
theorem d_M_power_28 : decode b_M_power 28 = .ok (.aload_n 0, 1) := by decide +kernel
theorem d_M_power_29 : decode b_M_power 29 = .ok (.getfield 23, 3) := by decide +kernel
theorem d_M_power_32 : decode b_M_power 32 = .ok (.ifCond .le 5, 3) := by decide +kernel
theorem d_M_power_35 : decode b_M_power 35 = .ok (.iconst 0, 1) := by decide +kernel
theorem d_M_power_36 : decode b_M_power 36 = .ok (.ireturn, 1) := by decide +kernel
theorem d_M_power_37 : decode b_M_power 37 = .ok (.aload_n 0, 1) := by decide +kernel
theorem d_M_power_38 : decode b_M_power 38 = .ok (.iconst 0, 1) := by decide +kernel
theorem d_M_power_39 : decode b_M_power 39 = .ok (.iload_n 2, 1) := by decide +kernel
theorem d_M_power_40 : decode b_M_power 40 = .ok (.i2l, 1) := by decide +kernel
theorem d_M_power_41 : decode b_M_power 41 = .ok (.invokevirtual 115, 3) := by decide +kernel
theorem d_M_power_44 : decode b_M_power 44 = .ok (.lstore 4, 2) := by decide +kernel
theorem d_M_power_46 : decode b_M_power 46 = .ok (.aload_n 0, 1) := by decide +kernel
theorem d_M_power_47 : decode b_M_power 47 = .ok (.iconst 1, 1) := by decide +kernel
theorem d_M_power_48 : decode b_M_power 48 = .ok (.iload_n 2, 1) := by decide +kernel
theorem d_M_power_49 : decode b_M_power 49 = .ok (.i2l, 1) := by decide +kernel
theorem d_M_power_50 : decode b_M_power 50 = .ok (.invokevirtual 115, 3) := by decide +kernel
theorem d_M_power_53 : decode b_M_power 53 = .ok (.lstore 6, 2) := by decide +kernel
theorem d_M_power_55 : decode b_M_power 55 = .ok (.aload_n 0, 1) := by decide +kernel
theorem d_M_power_56 : decode b_M_power 56 = .ok (.lconst 1, 1) := by decide +kernel
theorem d_M_power_57 : decode b_M_power 57 = .ok (.iload_n 2, 1) := by decide +kernel
theorem d_M_power_58 : decode b_M_power 58 = .ok (.i2l, 1) := by decide +kernel
theorem d_M_power_59 : decode b_M_power 59 = .ok (.lrem, 1) := by decide +kernel
theorem d_M_power_60 : decode b_M_power 60 = .ok (.putfield 103, 3) := by decide +kernel
theorem d_M_power_63 : decode b_M_power 63 = .ok (.aload_n 0, 1) := by decide +kernel
theorem d_M_power_64 : decode b_M_power 64 = .ok (.lconst 0, 1) := by decide +kernel
theorem d_M_power_65 : decode b_M_power 65 = .ok (.putfield 106, 3) := by decide +kernel
theorem d_M_power_68 : decode b_M_power 68 = .ok (.aload_n 0, 1) := by decide +kernel
theorem d_M_power_69 : decode b_M_power 69 = .ok (.lconst 0, 1) := by decide +kernel
theorem d_M_power_70 : decode b_M_power 70 = .ok (.putfield 109, 3) := by decide +kernel
theorem d_M_power_73 : decode b_M_power 73 = .ok (.aload_n 0, 1) := by decide +kernel
theorem d_M_power_74 : decode b_M_power 74 = .ok (.lconst 1, 1) := by decide +kernel
theorem d_M_power_75 : decode b_M_power 75 = .ok (.iload_n 2, 1) := by decide +kernel
theorem d_M_power_76 : decode b_M_power 76 = .ok (.i2l, 1) := by decide +kernel
theorem d_M_power_77 : decode b_M_power 77 = .ok (.lrem, 1) := by decide +kernel
theorem d_M_power_78 : decode b_M_power 78 = .ok (.putfield 112, 3) := by decide +kernel
theorem d_M_power_81 : decode b_M_power 81 = .ok (.bipush 30, 2) := by decide +kernel
theorem d_M_power_83 : decode b_M_power 83 = .ok (.istore 8, 2) := by decide +kernel
theorem d_M_power_85 : decode b_M_power 85 = .ok (.iload 8, 2) := by decide +kernel
theorem d_M_power_87 : decode b_M_power 87 = .ok (.ifCond .lt 58, 3) := by decide +kernel
theorem d_M_power_90 : decode b_M_power 90 = .ok (.aload_n 0, 1) := by decide +kernel
theorem d_M_power_91 : decode b_M_power 91 = .ok (.aload_n 0, 1) := by decide +kernel
theorem d_M_power_92 : decode b_M_power 92 = .ok (.getfield 103, 3) := by decide +kernel
theorem d_M_power_95 : decode b_M_power 95 = .ok (.aload_n 0, 1) := by decide +kernel
theorem d_M_power_96 : decode b_M_power 96 = .ok (.getfield 106, 3) := by decide +kernel
theorem d_M_power_99 : decode b_M_power 99 = .ok (.aload_n 0, 1) := by decide +kernel
theorem d_M_power_100 : decode b_M_power 100 = .ok (.getfield 109, 3) := by decide +kernel
theorem d_M_power_103 : decode b_M_power 103 = .ok (.aload_n 0, 1) := by decide +kernel
theorem d_M_power_104 : decode b_M_power 104 = .ok (.getfield 112, 3) := by decide +kernel
theorem d_M_power_107 : decode b_M_power 107 = .ok (.iload_n 2, 1) := by decide +kernel
theorem d_M_power_108 : decode b_M_power 108 = .ok (.i2l, 1) := by decide +kernel
theorem d_M_power_109 : decode b_M_power 109 = .ok (.invokevirtual 119, 3) := by decide +kernel
theorem d_M_power_112 : decode b_M_power 112 = .ok (.iload_n 1, 1) := by decide +kernel
theorem d_M_power_113 : decode b_M_power 113 = .ok (.iload 8, 2) := by decide +kernel
theorem d_M_power_115 : decode b_M_power 115 = .ok (.ishr, 1) := by decide +kernel
theorem d_M_power_116 : decode b_M_power 116 = .ok (.iconst 1, 1) := by decide +kernel
theorem d_M_power_117 : decode b_M_power 117 = .ok (.iand, 1) := by decide +kernel
theorem d_M_power_118 : decode b_M_power 118 = .ok (.iconst 1, 1) := by decide +kernel
theorem d_M_power_119 : decode b_M_power 119 = .ok (.if_icmp .ne 20, 3) := by decide +kernel
theorem d_M_power_122 : decode b_M_power 122 = .ok (.aload_n 0, 1) := by decide +kernel
theorem d_M_power_123 : decode b_M_power 123 = .ok (.lload 4, 2) := by decide +kernel
theorem d_M_power_125 : decode b_M_power 125 = .ok (.iload_n 2, 1) := by decide +kernel
theorem d_M_power_126 : decode b_M_power 126 = .ok (.i2l, 1) := by decide +kernel
theorem d_M_power_127 : decode b_M_power 127 = .ok (.lconst 1, 1) := by decide +kernel
theorem d_M_power_128 : decode b_M_power 128 = .ok (.lsub, 1) := by decide +kernel
theorem d_M_power_129 : decode b_M_power 129 = .ok (.lconst 1, 1) := by decide +kernel
theorem d_M_power_130 : decode b_M_power 130 = .ok (.iload_n 2, 1) := by decide +kernel
theorem d_M_power_131 : decode b_M_power 131 = .ok (.i2l, 1) := by decide +kernel
theorem d_M_power_132 : decode b_M_power 132 = .ok (.lrem, 1) := by decide +kernel
theorem d_M_power_133 : decode b_M_power 133 = .ok (.lconst 0, 1) := by decide +kernel
theorem d_M_power_134 : decode b_M_power 134 = .ok (.iload_n 2, 1) := by decide +kernel
theorem d_M_power_135 : decode b_M_power 135 = .ok (.i2l, 1) := by decide +kernel
theorem d_M_power_136 : decode b_M_power 136 = .ok (.invokevirtual 119, 3) := by decide +kernel
theorem d_M_power_139 : decode b_M_power 139 = .ok (.iinc 8 (-1), 3) := by decide +kernel
theorem d_M_power_142 : decode b_M_power 142 = .ok (.goto (-57), 3) := by decide +kernel
theorem d_M_power_145 : decode b_M_power 145 = .ok (.iload_n 3, 1) := by decide +kernel
theorem d_M_power_146 : decode b_M_power 146 = .ok (.ifCond .ne 8, 3) := by decide +kernel
theorem d_M_power_149 : decode b_M_power 149 = .ok (.lload 4, 2) := by decide +kernel
theorem d_M_power_151 : decode b_M_power 151 = .ok (.goto 5, 3) := by decide +kernel
theorem d_M_power_154 : decode b_M_power 154 = .ok (.lload 6, 2) := by decide +kernel
theorem d_M_power_156 : decode b_M_power 156 = .ok (.lstore 8, 2) := by decide +kernel
theorem d_M_power_158 : decode b_M_power 158 = .ok (.iload_n 3, 1) := by decide +kernel
theorem d_M_power_159 : decode b_M_power 159 = .ok (.ifCond .ne 12, 3) := by decide +kernel
theorem d_M_power_162 : decode b_M_power 162 = .ok (.ldc2_w 54, 3) := by decide +kernel
theorem d_M_power_165 : decode b_M_power 165 = .ok (.iload_n 2, 1) := by decide +kernel
theorem d_M_power_166 : decode b_M_power 166 = .ok (.i2l, 1) := by decide +kernel
theorem d_M_power_167 : decode b_M_power 167 = .ok (.lrem, 1) := by decide +kernel
theorem d_M_power_168 : decode b_M_power 168 = .ok (.goto 4, 3) := by decide +kernel
theorem d_M_power_171 : decode b_M_power 171 = .ok (.lconst 0, 1) := by decide +kernel
theorem d_M_power_172 : decode b_M_power 172 = .ok (.lstore 10, 2) := by decide +kernel
theorem d_M_power_174 : decode b_M_power 174 = .ok (.aload_n 0, 1) := by decide +kernel
theorem d_M_power_175 : decode b_M_power 175 = .ok (.getfield 109, 3) := by decide +kernel
theorem d_M_power_178 : decode b_M_power 178 = .ok (.lload 8, 2) := by decide +kernel
theorem d_M_power_180 : decode b_M_power 180 = .ok (.lmul, 1) := by decide +kernel
theorem d_M_power_181 : decode b_M_power 181 = .ok (.iload_n 2, 1) := by decide +kernel
theorem d_M_power_182 : decode b_M_power 182 = .ok (.i2l, 1) := by decide +kernel
theorem d_M_power_183 : decode b_M_power 183 = .ok (.lrem, 1) := by decide +kernel
theorem d_M_power_184 : decode b_M_power 184 = .ok (.aload_n 0, 1) := by decide +kernel
theorem d_M_power_185 : decode b_M_power 185 = .ok (.getfield 112, 3) := by decide +kernel
theorem d_M_power_188 : decode b_M_power 188 = .ok (.lload 10, 2) := by decide +kernel
theorem d_M_power_190 : decode b_M_power 190 = .ok (.lmul, 1) := by decide +kernel
theorem d_M_power_191 : decode b_M_power 191 = .ok (.iload_n 2, 1) := by decide +kernel
theorem d_M_power_192 : decode b_M_power 192 = .ok (.i2l, 1) := by decide +kernel
theorem d_M_power_193 : decode b_M_power 193 = .ok (.lrem, 1) := by decide +kernel
theorem d_M_power_194 : decode b_M_power 194 = .ok (.ladd, 1) := by decide +kernel
theorem d_M_power_195 : decode b_M_power 195 = .ok (.iload_n 2, 1) := by decide +kernel
theorem d_M_power_196 : decode b_M_power 196 = .ok (.i2l, 1) := by decide +kernel
theorem d_M_power_197 : decode b_M_power 197 = .ok (.lrem, 1) := by decide +kernel
theorem d_M_power_198 : decode b_M_power 198 = .ok (.l2i, 1) := by decide +kernel
theorem d_M_power_199 : decode b_M_power 199 = .ok (.ireturn, 1) := by decide +kernel
theorem d_M_sized_0 : decode b_M_sized 0 = .ok (.aload_n 0, 1) := by decide +kernel
theorem d_M_sized_1 : decode b_M_sized 1 = .ok (.iload_n 1, 1) := by decide +kernel
theorem d_M_sized_2 : decode b_M_sized 2 = .ok (.invokevirtual 123, 3) := by decide +kernel
theorem d_M_sized_5 : decode b_M_sized 5 = .ok (.ifCond .eq 18, 3) := by decide +kernel
theorem d_M_sized_8 : decode b_M_sized 8 = .ok (.aload_n 0, 1) := by decide +kernel
theorem d_M_sized_9 : decode b_M_sized 9 = .ok (.bipush 10, 2) := by decide +kernel
theorem d_M_sized_11 : decode b_M_sized 11 = .ok (.ldc2_w 127, 3) := by decide +kernel
theorem d_M_sized_14 : decode b_M_sized 14 = .ok (.iload_n 1, 1) := by decide +kernel
theorem d_M_sized_15 : decode b_M_sized 15 = .ok (.lconst 0, 1) := by decide +kernel
theorem d_M_sized_16 : decode b_M_sized 16 = .ok (.iload_n 1, 1) := by decide +kernel
theorem d_M_sized_17 : decode b_M_sized 17 = .ok (.invokevirtual 69, 3) := by decide +kernel
theorem d_M_sized_20 : decode b_M_sized 20 = .ok (.goto 10, 3) := by decide +kernel
theorem d_M_sized_23 : decode b_M_sized 23 = .ok (.aload_n 0, 1) := by decide +kernel
theorem d_M_sized_24 : decode b_M_sized 24 = .ok (.bipush 10, 2) := by decide +kernel
theorem d_M_sized_26 : decode b_M_sized 26 = .ok (.iload_n 1, 1) := by decide +kernel
theorem d_M_sized_27 : decode b_M_sized 27 = .ok (.invokevirtual 73, 3) := by decide +kernel
theorem d_M_sized_30 : decode b_M_sized 30 = .ok (.aload_n 0, 1) := by decide +kernel
theorem d_M_sized_31 : decode b_M_sized 31 = .ok (.bipush 10, 2) := by decide +kernel
theorem d_M_sized_33 : decode b_M_sized 33 = .ok (.invokevirtual 37, 3) := by decide +kernel
theorem d_M_sized_36 : decode b_M_sized 36 = .ok (.ireturn, 1) := by decide +kernel
theorem d_M_bitsOf_0 : decode b_M_bitsOf 0 = .ok (.aload_n 0, 1) := by decide +kernel
theorem d_M_bitsOf_1 : decode b_M_bitsOf 1 = .ok (.iload_n 1, 1) := by decide +kernel
theorem d_M_bitsOf_2 : decode b_M_bitsOf 2 = .ok (.invokevirtual 129, 3) := by decide +kernel
theorem d_M_bitsOf_5 : decode b_M_bitsOf 5 = .ok (.istore_n 2, 1) := by decide +kernel
theorem d_M_bitsOf_6 : decode b_M_bitsOf 6 = .ok (.iload_n 2, 1) := by decide +kernel
theorem d_M_bitsOf_7 : decode b_M_bitsOf 7 = .ok (.ifCond .ne 7, 3) := by decide +kernel
theorem d_M_bitsOf_10 : decode b_M_bitsOf 10 = .ok (.iconst 0, 1) := by decide +kernel
theorem d_M_bitsOf_11 : decode b_M_bitsOf 11 = .ok (.goto 9, 3) := by decide +kernel
theorem d_M_bitsOf_14 : decode b_M_bitsOf 14 = .ok (.bipush 16, 2) := by decide +kernel
theorem d_M_bitsOf_16 : decode b_M_bitsOf 16 = .ok (.iload_n 2, 1) := by decide +kernel
theorem d_M_bitsOf_17 : decode b_M_bitsOf 17 = .ok (.iconst 1, 1) := by decide +kernel
theorem d_M_bitsOf_18 : decode b_M_bitsOf 18 = .ok (.isub, 1) := by decide +kernel
theorem d_M_bitsOf_19 : decode b_M_bitsOf 19 = .ok (.imul, 1) := by decide +kernel
theorem d_M_bitsOf_20 : decode b_M_bitsOf 20 = .ok (.istore_n 3, 1) := by decide +kernel
theorem d_M_bitsOf_21 : decode b_M_bitsOf 21 = .ok (.iload_n 2, 1) := by decide +kernel
theorem d_M_bitsOf_22 : decode b_M_bitsOf 22 = .ok (.ifCond .ne 7, 3) := by decide +kernel
theorem d_M_bitsOf_25 : decode b_M_bitsOf 25 = .ok (.iconst 0, 1) := by decide +kernel
theorem d_M_bitsOf_26 : decode b_M_bitsOf 26 = .ok (.goto 12, 3) := by decide +kernel
theorem d_M_bitsOf_29 : decode b_M_bitsOf 29 = .ok (.aload_n 0, 1) := by decide +kernel
theorem d_M_bitsOf_30 : decode b_M_bitsOf 30 = .ok (.bipush 10, 2) := by decide +kernel
theorem d_M_bitsOf_32 : decode b_M_bitsOf 32 = .ok (.iload_n 2, 1) := by decide +kernel
theorem d_M_bitsOf_33 : decode b_M_bitsOf 33 = .ok (.iconst 1, 1) := by decide +kernel
theorem d_M_bitsOf_34 : decode b_M_bitsOf 34 = .ok (.isub, 1) := by decide +kernel
theorem d_M_bitsOf_35 : decode b_M_bitsOf 35 = .ok (.invokevirtual 33, 3) := by decide +kernel
theorem d_M_bitsOf_38 : decode b_M_bitsOf 38 = .ok (.istore 4, 2) := by decide +kernel
theorem d_M_bitsOf_40 : decode b_M_bitsOf 40 = .ok (.iload 4, 2) := by decide +kernel
theorem d_M_bitsOf_42 : decode b_M_bitsOf 42 = .ok (.ifCond .le 15, 3) := by decide +kernel
theorem d_M_bitsOf_45 : decode b_M_bitsOf 45 = .ok (.iinc 3 1, 3) := by decide +kernel
theorem d_M_bitsOf_48 : decode b_M_bitsOf 48 = .ok (.iload 4, 2) := by decide +kernel
theorem d_M_bitsOf_50 : decode b_M_bitsOf 50 = .ok (.iconst 1, 1) := by decide +kernel
theorem d_M_bitsOf_51 : decode b_M_bitsOf 51 = .ok (.ishr, 1) := by decide +kernel
theorem d_M_bitsOf_52 : decode b_M_bitsOf 52 = .ok (.istore 4, 2) := by decide +kernel
theorem d_M_bitsOf_54 : decode b_M_bitsOf 54 = .ok (.goto (-14), 3) := by decide +kernel
theorem d_M_bitsOf_57 : decode b_M_bitsOf 57 = .ok (.iload_n 3, 1) := by decide +kernel
theorem d_M_bitsOf_58 : decode b_M_bitsOf 58 = .ok (.ireturn, 1) := by decide +kernel
theorem d_M_left_0 : decode b_M_left 0 = .ok (.lconst 0, 1) := by decide +kernel
theorem d_M_left_1 : decode b_M_left 1 = .ok (.lstore 4, 2) := by decide +kernel
theorem d_M_left_3 : decode b_M_left 3 = .ok (.aload_n 0, 1) := by decide +kernel
theorem d_M_left_4 : decode b_M_left 4 = .ok (.iload_n 1, 1) := by decide +kernel
theorem d_M_left_5 : decode b_M_left 5 = .ok (.invokevirtual 129, 3) := by decide +kernel
theorem d_M_left_8 : decode b_M_left 8 = .ok (.iconst 1, 1) := by decide +kernel
theorem d_M_left_9 : decode b_M_left 9 = .ok (.isub, 1) := by decide +kernel
theorem d_M_left_10 : decode b_M_left 10 = .ok (.istore 6, 2) := by decide +kernel
theorem d_M_left_12 : decode b_M_left 12 = .ok (.iload 6, 2) := by decide +kernel
theorem d_M_left_14 : decode b_M_left 14 = .ok (.ifCond .lt 29, 3) := by decide +kernel
theorem d_M_left_17 : decode b_M_left 17 = .ok (.lload 4, 2) := by decide +kernel
theorem d_M_left_19 : decode b_M_left 19 = .ok (.ldc2_w 132, 3) := by decide +kernel
theorem d_M_left_22 : decode b_M_left 22 = .ok (.lmul, 1) := by decide +kernel
theorem d_M_left_23 : decode b_M_left 23 = .ok (.aload_n 0, 1) := by decide +kernel
theorem d_M_left_24 : decode b_M_left 24 = .ok (.bipush 10, 2) := by decide +kernel
theorem d_M_left_26 : decode b_M_left 26 = .ok (.iload 6, 2) := by decide +kernel
theorem d_M_left_28 : decode b_M_left 28 = .ok (.invokevirtual 33, 3) := by decide +kernel
theorem d_M_left_31 : decode b_M_left 31 = .ok (.i2l, 1) := by decide +kernel
theorem d_M_left_32 : decode b_M_left 32 = .ok (.ladd, 1) := by decide +kernel
theorem d_M_left_33 : decode b_M_left 33 = .ok (.lload_n 2, 1) := by decide +kernel
theorem d_M_left_34 : decode b_M_left 34 = .ok (.lrem, 1) := by decide +kernel
theorem d_M_left_35 : decode b_M_left 35 = .ok (.lstore 4, 2) := by decide +kernel
theorem d_M_left_37 : decode b_M_left 37 = .ok (.iinc 6 (-1), 3) := by decide +kernel
theorem d_M_left_40 : decode b_M_left 40 = .ok (.goto (-28), 3) := by decide +kernel
theorem d_M_left_43 : decode b_M_left 43 = .ok (.aload_n 0, 1) := by decide +kernel
theorem d_M_left_44 : decode b_M_left 44 = .ok (.iload_n 1, 1) := by decide +kernel
theorem d_M_left_45 : decode b_M_left 45 = .ok (.invokevirtual 123, 3) := by decide +kernel
theorem d_M_left_48 : decode b_M_left 48 = .ok (.ifCond .eq 17, 3) := by decide +kernel
theorem d_M_left_51 : decode b_M_left 51 = .ok (.lload 4, 2) := by decide +kernel
theorem d_M_left_53 : decode b_M_left 53 = .ok (.lconst 0, 1) := by decide +kernel
theorem d_M_left_54 : decode b_M_left 54 = .ok (.lcmp, 1) := by decide +kernel
theorem d_M_left_55 : decode b_M_left 55 = .ok (.ifCond .le 10, 3) := by decide +kernel
theorem d_M_left_58 : decode b_M_left 58 = .ok (.lload_n 2, 1) := by decide +kernel
theorem d_M_left_59 : decode b_M_left 59 = .ok (.lload 4, 2) := by decide +kernel
theorem d_M_left_61 : decode b_M_left 61 = .ok (.lsub, 1) := by decide +kernel
theorem d_M_left_62 : decode b_M_left 62 = .ok (.goto 5, 3) := by decide +kernel
theorem d_M_left_65 : decode b_M_left 65 = .ok (.lload 4, 2) := by decide +kernel
theorem d_M_left_67 : decode b_M_left 67 = .ok (.lreturn, 1) := by decide +kernel
theorem d_M_sign_0 : decode b_M_sign 0 = .ok (.aload_n 0, 1) := by decide +kernel
theorem d_M_sign_1 : decode b_M_sign 1 = .ok (.iload_n 1, 1) := by decide +kernel
theorem d_M_sign_2 : decode b_M_sign 2 = .ok (.i2l, 1) := by decide +kernel
theorem d_M_sign_3 : decode b_M_sign 3 = .ok (.lconst 0, 1) := by decide +kernel
theorem d_M_sign_4 : decode b_M_sign 4 = .ok (.ldc2_w 134, 3) := by decide +kernel
theorem d_M_sign_7 : decode b_M_sign 7 = .ok (.invokestatic 88, 3) := by decide +kernel
theorem d_M_sign_10 : decode b_M_sign 10 = .ok (.ifCond .eq 7, 3) := by decide +kernel
theorem d_M_sign_13 : decode b_M_sign 13 = .ok (.iconst 0, 1) := by decide +kernel
theorem d_M_sign_14 : decode b_M_sign 14 = .ok (.goto 4, 3) := by decide +kernel
theorem d_M_sign_17 : decode b_M_sign 17 = .ok (.iconst 1, 1) := by decide +kernel
theorem d_M_sign_18 : decode b_M_sign 18 = .ok (.putfield 23, 3) := by decide +kernel
theorem d_M_sign_21 : decode b_M_sign 21 = .ok (.aload_n 0, 1) := by decide +kernel
theorem d_M_sign_22 : decode b_M_sign 22 = .ok (.getfield 23, 3) := by decide +kernel
theorem d_M_sign_25 : decode b_M_sign 25 = .ok (.ifCond .le 5, 3) := by decide +kernel
theorem d_M_sign_28 : decode b_M_sign 28 = .ok (.iconst 0, 1) := by decide +kernel
theorem d_M_sign_29 : decode b_M_sign 29 = .ok (.ireturn, 1) := by decide +kernel
theorem d_M_sign_30 : decode b_M_sign 30 = .ok (.aload_n 0, 1) := by decide +kernel
theorem d_M_sign_31 : decode b_M_sign 31 = .ok (.iload_n 1, 1) := by decide +kernel
theorem d_M_sign_32 : decode b_M_sign 32 = .ok (.invokevirtual 123, 3) := by decide +kernel
theorem d_M_sign_35 : decode b_M_sign 35 = .ok (.ifCond .eq 7, 3) := by decide +kernel
theorem d_M_sign_38 : decode b_M_sign 38 = .ok (.iconst (-1), 1) := by decide +kernel
theorem d_M_sign_39 : decode b_M_sign 39 = .ok (.goto 16, 3) := by decide +kernel
theorem d_M_sign_42 : decode b_M_sign 42 = .ok (.aload_n 0, 1) := by decide +kernel
theorem d_M_sign_43 : decode b_M_sign 43 = .ok (.iload_n 1, 1) := by decide +kernel
theorem d_M_sign_44 : decode b_M_sign 44 = .ok (.invokevirtual 37, 3) := by decide +kernel
theorem d_M_sign_47 : decode b_M_sign 47 = .ok (.ifCond .le 7, 3) := by decide +kernel
theorem d_M_sign_50 : decode b_M_sign 50 = .ok (.iconst 1, 1) := by decide +kernel
theorem d_M_sign_51 : decode b_M_sign 51 = .ok (.goto 4, 3) := by decide +kernel
theorem d_M_sign_54 : decode b_M_sign 54 = .ok (.iconst 0, 1) := by decide +kernel
theorem d_M_sign_55 : decode b_M_sign 55 = .ok (.ireturn, 1) := by decide +kernel
theorem d_M_bits_0 : decode b_M_bits 0 = .ok (.aload_n 0, 1) := by decide +kernel
theorem d_M_bits_1 : decode b_M_bits 1 = .ok (.iload_n 1, 1) := by decide +kernel
theorem d_M_bits_2 : decode b_M_bits 2 = .ok (.i2l, 1) := by decide +kernel
theorem d_M_bits_3 : decode b_M_bits 3 = .ok (.lconst 0, 1) := by decide +kernel
theorem d_M_bits_4 : decode b_M_bits 4 = .ok (.ldc2_w 134, 3) := by decide +kernel
theorem d_M_bits_7 : decode b_M_bits 7 = .ok (.invokestatic 88, 3) := by decide +kernel
theorem d_M_bits_10 : decode b_M_bits 10 = .ok (.ifCond .eq 7, 3) := by decide +kernel
theorem d_M_bits_13 : decode b_M_bits 13 = .ok (.iconst 0, 1) := by decide +kernel
theorem d_M_bits_14 : decode b_M_bits 14 = .ok (.goto 4, 3) := by decide +kernel
theorem d_M_bits_17 : decode b_M_bits 17 = .ok (.iconst 1, 1) := by decide +kernel
theorem d_M_bits_18 : decode b_M_bits 18 = .ok (.putfield 23, 3) := by decide +kernel
theorem d_M_bits_21 : decode b_M_bits 21 = .ok (.aload_n 0, 1) := by decide +kernel
theorem d_M_bits_22 : decode b_M_bits 22 = .ok (.getfield 23, 3) := by decide +kernel
theorem d_M_bits_25 : decode b_M_bits 25 = .ok (.ifCond .le 7, 3) := by decide +kernel
theorem d_M_bits_28 : decode b_M_bits 28 = .ok (.iconst 0, 1) := by decide +kernel
theorem d_M_bits_29 : decode b_M_bits 29 = .ok (.goto 8, 3) := by decide +kernel
theorem d_M_bits_32 : decode b_M_bits 32 = .ok (.aload_n 0, 1) := by decide +kernel
theorem d_M_bits_33 : decode b_M_bits 33 = .ok (.iload_n 1, 1) := by decide +kernel
theorem d_M_bits_34 : decode b_M_bits 34 = .ok (.invokevirtual 92, 3) := by decide +kernel
theorem d_M_bits_37 : decode b_M_bits 37 = .ok (.ireturn, 1) := by decide +kernel
theorem d_M_word_0 : decode b_M_word 0 = .ok (.aload_n 0, 1) := by decide +kernel
theorem d_M_word_1 : decode b_M_word 1 = .ok (.iload_n 1, 1) := by decide +kernel
theorem d_M_word_2 : decode b_M_word 2 = .ok (.i2l, 1) := by decide +kernel
theorem d_M_word_3 : decode b_M_word 3 = .ok (.lconst 0, 1) := by decide +kernel
theorem d_M_word_4 : decode b_M_word 4 = .ok (.ldc2_w 134, 3) := by decide +kernel
theorem d_M_word_7 : decode b_M_word 7 = .ok (.invokestatic 88, 3) := by decide +kernel
theorem d_M_word_10 : decode b_M_word 10 = .ok (.ifCond .eq 19, 3) := by decide +kernel
theorem d_M_word_13 : decode b_M_word 13 = .ok (.iload_n 2, 1) := by decide +kernel
theorem d_M_word_14 : decode b_M_word 14 = .ok (.i2l, 1) := by decide +kernel
theorem d_M_word_15 : decode b_M_word 15 = .ok (.lconst 0, 1) := by decide +kernel
theorem d_M_word_16 : decode b_M_word 16 = .ok (.ldc2_w 136, 3) := by decide +kernel
theorem d_M_word_19 : decode b_M_word 19 = .ok (.invokestatic 88, 3) := by decide +kernel
theorem d_M_word_22 : decode b_M_word 22 = .ok (.ifCond .eq 7, 3) := by decide +kernel
theorem d_M_word_25 : decode b_M_word 25 = .ok (.iconst 0, 1) := by decide +kernel
theorem d_M_word_26 : decode b_M_word 26 = .ok (.goto 4, 3) := by decide +kernel
theorem d_M_word_29 : decode b_M_word 29 = .ok (.iconst 1, 1) := by decide +kernel
theorem d_M_word_30 : decode b_M_word 30 = .ok (.putfield 23, 3) := by decide +kernel
theorem d_M_word_33 : decode b_M_word 33 = .ok (.aload_n 0, 1) := by decide +kernel
theorem d_M_word_34 : decode b_M_word 34 = .ok (.getfield 23, 3) := by decide +kernel
theorem d_M_word_37 : decode b_M_word 37 = .ok (.ifCond .le 5, 3) := by decide +kernel
theorem d_M_word_40 : decode b_M_word 40 = .ok (.iconst 0, 1) := by decide +kernel
theorem d_M_word_41 : decode b_M_word 41 = .ok (.ireturn, 1) := by decide +kernel
theorem d_M_word_42 : decode b_M_word 42 = .ok (.aload_n 0, 1) := by decide +kernel
theorem d_M_word_43 : decode b_M_word 43 = .ok (.iload_n 1, 1) := by decide +kernel
theorem d_M_word_44 : decode b_M_word 44 = .ok (.invokevirtual 129, 3) := by decide +kernel
theorem d_M_word_47 : decode b_M_word 47 = .ok (.istore_n 3, 1) := by decide +kernel
theorem d_M_word_48 : decode b_M_word 48 = .ok (.aload_n 0, 1) := by decide +kernel
theorem d_M_word_49 : decode b_M_word 49 = .ok (.bipush 10, 2) := by decide +kernel
theorem d_M_word_51 : decode b_M_word 51 = .ok (.iconst 2, 1) := by decide +kernel
theorem d_M_word_52 : decode b_M_word 52 = .ok (.iload_n 2, 1) := by decide +kernel
theorem d_M_word_53 : decode b_M_word 53 = .ok (.imul, 1) := by decide +kernel
theorem d_M_word_54 : decode b_M_word 54 = .ok (.invokevirtual 33, 3) := by decide +kernel
theorem d_M_word_57 : decode b_M_word 57 = .ok (.aload_n 0, 1) := by decide +kernel
theorem d_M_word_58 : decode b_M_word 58 = .ok (.bipush 10, 2) := by decide +kernel
theorem d_M_word_60 : decode b_M_word 60 = .ok (.iconst 2, 1) := by decide +kernel
theorem d_M_word_61 : decode b_M_word 61 = .ok (.iload_n 2, 1) := by decide +kernel
theorem d_M_word_62 : decode b_M_word 62 = .ok (.imul, 1) := by decide +kernel
theorem d_M_word_63 : decode b_M_word 63 = .ok (.iconst 1, 1) := by decide +kernel
theorem d_M_word_64 : decode b_M_word 64 = .ok (.iadd, 1) := by decide +kernel
theorem d_M_word_65 : decode b_M_word 65 = .ok (.invokevirtual 33, 3) := by decide +kernel
theorem d_M_word_68 : decode b_M_word 68 = .ok (.bipush 16, 2) := by decide +kernel
theorem d_M_word_70 : decode b_M_word 70 = .ok (.ishl, 1) := by decide +kernel
theorem d_M_word_71 : decode b_M_word 71 = .ok (.ior, 1) := by decide +kernel
theorem d_M_word_72 : decode b_M_word 72 = .ok (.ireturn, 1) := by decide +kernel
theorem d_M_residue_0 : decode b_M_residue 0 = .ok (.iload_n 1, 1) := by decide +kernel
theorem d_M_residue_1 : decode b_M_residue 1 = .ok (.i2l, 1) := by decide +kernel
theorem d_M_residue_2 : decode b_M_residue 2 = .ok (.lconst 0, 1) := by decide +kernel
theorem d_M_residue_3 : decode b_M_residue 3 = .ok (.ldc2_w 134, 3) := by decide +kernel
theorem d_M_residue_6 : decode b_M_residue 6 = .ok (.invokestatic 88, 3) := by decide +kernel
theorem d_M_residue_9 : decode b_M_residue 9 = .ok (.ifCond .ne 9, 3) := by decide +kernel
theorem d_M_residue_12 : decode b_M_residue 12 = .ok (.aload_n 0, 1) := by decide +kernel
theorem d_M_residue_13 : decode b_M_residue 13 = .ok (.iconst 1, 1) := by decide +kernel
theorem d_M_residue_14 : decode b_M_residue 14 = .ok (.invokevirtual 138, 3) := by decide +kernel
theorem d_M_residue_17 : decode b_M_residue 17 = .ok (.ireturn, 1) := by decide +kernel
theorem d_M_residue_18 : decode b_M_residue 18 = .ok (.iload_n 2, 1) := by decide +kernel
theorem d_M_residue_19 : decode b_M_residue 19 = .ok (.iconst 1, 1) := by decide +kernel
theorem d_M_residue_20 : decode b_M_residue 20 = .ok (.if_icmp .ge 9, 3) := by decide +kernel
theorem d_M_residue_23 : decode b_M_residue 23 = .ok (.aload_n 0, 1) := by decide +kernel
theorem d_M_residue_24 : decode b_M_residue 24 = .ok (.iconst 2, 1) := by decide +kernel
theorem d_M_residue_25 : decode b_M_residue 25 = .ok (.invokevirtual 138, 3) := by decide +kernel
theorem d_M_residue_28 : decode b_M_residue 28 = .ok (.ireturn, 1) := by decide +kernel
theorem d_M_residue_29 : decode b_M_residue 29 = .ok (.aload_n 0, 1) := by decide +kernel
theorem d_M_residue_30 : decode b_M_residue 30 = .ok (.iconst 0, 1) := by decide +kernel
theorem d_M_residue_31 : decode b_M_residue 31 = .ok (.putfield 23, 3) := by decide +kernel
theorem d_M_residue_34 : decode b_M_residue 34 = .ok (.aload_n 0, 1) := by decide +kernel
theorem d_M_residue_35 : decode b_M_residue 35 = .ok (.iload_n 1, 1) := by decide +kernel
theorem d_M_residue_36 : decode b_M_residue 36 = .ok (.iload_n 2, 1) := by decide +kernel
theorem d_M_residue_37 : decode b_M_residue 37 = .ok (.i2l, 1) := by decide +kernel
theorem d_M_residue_38 : decode b_M_residue 38 = .ok (.invokevirtual 115, 3) := by decide +kernel
theorem d_M_residue_41 : decode b_M_residue 41 = .ok (.l2i, 1) := by decide +kernel
theorem d_M_residue_42 : decode b_M_residue 42 = .ok (.ireturn, 1) := by decide +kernel
end
section
/-! THE REFERENCE's WORLD: one object, one row of 12100 digits (11 numbers of 1100 digits, base 65536, two's complement) -/
abbrev SM : Type := Int32 × Int64 × Int32 × Int32 × (Nat → Int64) × (Nat → Int32)
abbrev YM : Type := va_G × (Nat → Nat) × ClassId
abbrev oM (z : YM) : Nat := z.2.1 0
abbrev aM (z : YM) : Nat := z.2.1 1
abbrev mo (z : YM) (g : SM) : Nat × va_E := (oM z, .inr (3, [.int g.1, .long g.2.1, .int g.2.2.1, .int g.2.2.2.1, .ref (aM z), .long (g.2.2.2.2.1 0), .long (g.2.2.2.2.1 1), .long (g.2.2.2.2.1 2), .long (g.2.2.2.2.1 3)]))
abbrev mr (z : YM) (g : SM) : Nat × va_E := (aM z, .inl (z.2.2, 12100, .inl g.2.2.2.2.2))
def mw (z : YM) (g : SM) : va_W := [mo z g, mr z g]
def mty (z : YM) : List (ClassId × FieldType) := [(z.2.2, .int)]
def yA (z : YM) (sz : Nat) : Nat → Prop := fun q => (∃ k, k < 2 ∧ q = z.2.1 k) ∨ sz ≤ q
def mC (g : SM) (v : Int32) : SM := (v, g.2)
def mD (g : SM) (v : Int64) : SM := (g.1, v, g.2.2)
def mR (g : SM) (v : Int32) : SM := (g.1, g.2.1, v, g.2.2.2)
def mN (g : SM) (v : Int32) : SM := (g.1, g.2.1, g.2.2.1, v, g.2.2.2.2)
def mX (g : SM) (k : Nat) (v : Int64) : SM := (g.1, g.2.1, g.2.2.1, g.2.2.2.1, (fun j => if j = k then v else g.2.2.2.2.1 j), g.2.2.2.2.2)
def mF (g : SM) (f : Nat → Int32) : SM := (g.1, g.2.1, g.2.2.1, g.2.2.2.1, g.2.2.2.2.1, f)
def Ms (z : YM) (g : SM) (H0 H : Heap) (locs : List Loc) (s : State) : Prop := va_P z.1 vwCl (mw z g) H ∧ va_K z.1 vwCl (mty z) s ∧ va_D (yA z H0.size) (mw z g) ∧ va_S (yA z H0.size) H0 H locs
def mI (z : YM) (g : SM) (sz : Nat) (U : State) : Prop := U.heap.size = sz ∧ va_P z.1 vwCl (mw z g) U.heap ∧ va_K z.1 vwCl (mty z) U ∧ va_D (fun _ => True) (mw z g)
def mO (z : YM) (sz : Nat) (g : SM) (t : State) : Prop := va_P z.1 vwCl (mw z g) t.heap ∧ va_K z.1 vwCl (mty z) t ∧ va_D (yA z sz) (mw z g)
theorem mw_ad (z : YM) (g : SM) {k : Nat} {q : Nat × va_E} (h : (mw z g)[k]? = some q) : k < 2 ∧ q.1 = z.2.1 k := by
  have hk : k < 2 := (List.getElem?_eq_some_iff.mp h).1
  refine ⟨hk, ?_⟩
  match k, hk, h with
  | 0, _, h => cases h; rfl
  | 1, _, h => cases h; rfl
theorem mD_self {z : YM} {g : SM} {sz : Nat} (h : va_D (fun _ => True) (mw z g)) : va_D (yA z sz) (mw z g) := ⟨h.1, fun k q hq => Or.inl ⟨k, mw_ad z g hq⟩⟩
theorem yA_le {z : YM} {a b q : Nat} (h : a ≤ b) (hq : yA z b q) : yA z a q := hq.elim Or.inl (fun k => Or.inr (Nat.le_trans h k))
section MRows
variable {p : Program} {l : Launch} {e : Env} {R : Room} {s : State} {m : MethodId} {args : Array Value} {below : List Frame} {meth : Method} {c : Code} {H H0 : Heap} {locs : List Loc} {cells slots : Nat} {Q : State → Prop} {cc : ByteArray} {pc : Nat} {ls : Array Slot} {rest : List Value} {z : YM} {g : SM}
theorem mp_C (hx : p.tables.exec = Jvm.exec) (hb : c.code = cc) (hts : ∀ w ∈ zt, w.before args s = true) {own : String} (hown : s.vm.findClass own = some m.cls) (hU : Ms z g H0 H locs s) {index : Nat} (hlink : (Cond.fieldLink own index R_M "code" "I").before args s = true) {v : Int32} (hdg : decode cc pc = .ok (.putfield index, 3))
    (kk : ∀ (H1 : Heap) (locs1 : List Loc), Ms z (mC g v) H0 H1 locs1 s → W p l e R s m args below meth c H1 locs1 cells slots Q (F0 m (pc + 3) ls rest)) : W p l e R s m args below meth c H locs cells slots Q (F0 m pc ls (.int v :: .ref (oM z) :: rest)) := by
  refine va_put (D := z.1) (ci := 3) (v := .int v) (ty := .int) (C := R_M) (T := F_M) (N := 9) hx hb hts in_M t_M t_M_ok n_M hown hU.2.1 hU.1 hU.2.2.1 hU.2.2.2 0 rfl rfl 0 (by decide) hlink (fun _ h9 => h9) rfl (by decide +kernel) rfl rfl (Nat.le_of_ble_eq_true rfl) hdg (fun H1 locs1 hP hD hS => kk H1 locs1 ?_)
  exact ⟨hP, hU.2.1, hD, hS⟩
theorem mp_D (hx : p.tables.exec = Jvm.exec) (hb : c.code = cc) (hts : ∀ w ∈ zt, w.before args s = true) {own : String} (hown : s.vm.findClass own = some m.cls) (hU : Ms z g H0 H locs s) {index : Nat} (hlink : (Cond.fieldLink own index R_M "d" "J").before args s = true) {v : Int64} (hdg : decode cc pc = .ok (.putfield index, 3))
    (kk : ∀ (H1 : Heap) (locs1 : List Loc), Ms z (mD g v) H0 H1 locs1 s → W p l e R s m args below meth c H1 locs1 cells slots Q (F0 m (pc + 3) ls rest)) : W p l e R s m args below meth c H locs cells slots Q (F0 m pc ls (.long v :: .ref (oM z) :: rest)) := by
  refine va_put (D := z.1) (ci := 3) (v := .long v) (ty := .long) (C := R_M) (T := F_M) (N := 9) hx hb hts in_M t_M t_M_ok n_M hown hU.2.1 hU.1 hU.2.2.1 hU.2.2.2 0 rfl rfl 1 (by decide) hlink (fun _ h9 => h9) rfl (by decide +kernel) rfl rfl (Nat.le_of_ble_eq_true rfl) hdg (fun H1 locs1 hP hD hS => kk H1 locs1 ?_)
  exact ⟨hP, hU.2.1, hD, hS⟩
theorem mp_R (hx : p.tables.exec = Jvm.exec) (hb : c.code = cc) (hts : ∀ w ∈ zt, w.before args s = true) {own : String} (hown : s.vm.findClass own = some m.cls) (hU : Ms z g H0 H locs s) {index : Nat} (hlink : (Cond.fieldLink own index R_M "ring" "I").before args s = true) {v : Int32} (hdg : decode cc pc = .ok (.putfield index, 3))
    (kk : ∀ (H1 : Heap) (locs1 : List Loc), Ms z (mR g v) H0 H1 locs1 s → W p l e R s m args below meth c H1 locs1 cells slots Q (F0 m (pc + 3) ls rest)) : W p l e R s m args below meth c H locs cells slots Q (F0 m pc ls (.int v :: .ref (oM z) :: rest)) := by
  refine va_put (D := z.1) (ci := 3) (v := .int v) (ty := .int) (C := R_M) (T := F_M) (N := 9) hx hb hts in_M t_M t_M_ok n_M hown hU.2.1 hU.1 hU.2.2.1 hU.2.2.2 0 rfl rfl 2 (by decide) hlink (fun _ h9 => h9) rfl (by decide +kernel) rfl rfl (Nat.le_of_ble_eq_true rfl) hdg (fun H1 locs1 hP hD hS => kk H1 locs1 ?_)
  exact ⟨hP, hU.2.1, hD, hS⟩
theorem mp_N (hx : p.tables.exec = Jvm.exec) (hb : c.code = cc) (hts : ∀ w ∈ zt, w.before args s = true) {own : String} (hown : s.vm.findClass own = some m.cls) (hU : Ms z g H0 H locs s) {index : Nat} (hlink : (Cond.fieldLink own index R_M "minus" "Z").before args s = true) {v : Int32} (hv : v = 0 ∨ v = 1) (hdg : decode cc pc = .ok (.putfield index, 3))
    (kk : ∀ (H1 : Heap) (locs1 : List Loc), Ms z (mN g v) H0 H1 locs1 s → W p l e R s m args below meth c H1 locs1 cells slots Q (F0 m (pc + 3) ls rest)) : W p l e R s m args below meth c H locs cells slots Q (F0 m pc ls (.int v :: .ref (oM z) :: rest)) := by
  refine va_put (D := z.1) (ci := 3) (v := .int v) (ty := .boolean) (C := R_M) (T := F_M) (N := 9) hx hb hts in_M t_M t_M_ok n_M hown hU.2.1 hU.1 hU.2.2.1 hU.2.2.2 0 rfl rfl 3 (by decide) hlink (fun _ h9 => h9) rfl (by decide +kernel) (by rcases hv with rfl | rfl <;> rfl) (by rcases hv with rfl | rfl <;> rfl) (Nat.le_of_ble_eq_true rfl) hdg (fun H1 locs1 hP hD hS => kk H1 locs1 ?_)
  exact ⟨hP, hU.2.1, hD, hS⟩
theorem mp_X0 (hx : p.tables.exec = Jvm.exec) (hb : c.code = cc) (hts : ∀ w ∈ zt, w.before args s = true) {own : String} (hown : s.vm.findClass own = some m.cls) (hU : Ms z g H0 H locs s) {index : Nat} (hlink : (Cond.fieldLink own index R_M "x" "J").before args s = true) {v : Int64} (hdg : decode cc pc = .ok (.putfield index, 3))
    (kk : ∀ (H1 : Heap) (locs1 : List Loc), Ms z (mX g 0 v) H0 H1 locs1 s → W p l e R s m args below meth c H1 locs1 cells slots Q (F0 m (pc + 3) ls rest)) : W p l e R s m args below meth c H locs cells slots Q (F0 m pc ls (.long v :: .ref (oM z) :: rest)) := by
  refine va_put (D := z.1) (ci := 3) (v := .long v) (ty := .long) (C := R_M) (T := F_M) (N := 9) hx hb hts in_M t_M t_M_ok n_M hown hU.2.1 hU.1 hU.2.2.1 hU.2.2.2 0 rfl rfl 5 (by decide) hlink (fun _ h9 => h9) rfl (by decide +kernel) rfl rfl (Nat.le_of_ble_eq_true rfl) hdg (fun H1 locs1 hP hD hS => kk H1 locs1 ?_)
  exact ⟨hP, hU.2.1, hD, hS⟩
theorem mp_X1 (hx : p.tables.exec = Jvm.exec) (hb : c.code = cc) (hts : ∀ w ∈ zt, w.before args s = true) {own : String} (hown : s.vm.findClass own = some m.cls) (hU : Ms z g H0 H locs s) {index : Nat} (hlink : (Cond.fieldLink own index R_M "y" "J").before args s = true) {v : Int64} (hdg : decode cc pc = .ok (.putfield index, 3))
    (kk : ∀ (H1 : Heap) (locs1 : List Loc), Ms z (mX g 1 v) H0 H1 locs1 s → W p l e R s m args below meth c H1 locs1 cells slots Q (F0 m (pc + 3) ls rest)) : W p l e R s m args below meth c H locs cells slots Q (F0 m pc ls (.long v :: .ref (oM z) :: rest)) := by
  refine va_put (D := z.1) (ci := 3) (v := .long v) (ty := .long) (C := R_M) (T := F_M) (N := 9) hx hb hts in_M t_M t_M_ok n_M hown hU.2.1 hU.1 hU.2.2.1 hU.2.2.2 0 rfl rfl 6 (by decide) hlink (fun _ h9 => h9) rfl (by decide +kernel) rfl rfl (Nat.le_of_ble_eq_true rfl) hdg (fun H1 locs1 hP hD hS => kk H1 locs1 ?_)
  exact ⟨hP, hU.2.1, hD, hS⟩
theorem mp_X2 (hx : p.tables.exec = Jvm.exec) (hb : c.code = cc) (hts : ∀ w ∈ zt, w.before args s = true) {own : String} (hown : s.vm.findClass own = some m.cls) (hU : Ms z g H0 H locs s) {index : Nat} (hlink : (Cond.fieldLink own index R_M "z" "J").before args s = true) {v : Int64} (hdg : decode cc pc = .ok (.putfield index, 3))
    (kk : ∀ (H1 : Heap) (locs1 : List Loc), Ms z (mX g 2 v) H0 H1 locs1 s → W p l e R s m args below meth c H1 locs1 cells slots Q (F0 m (pc + 3) ls rest)) : W p l e R s m args below meth c H locs cells slots Q (F0 m pc ls (.long v :: .ref (oM z) :: rest)) := by
  refine va_put (D := z.1) (ci := 3) (v := .long v) (ty := .long) (C := R_M) (T := F_M) (N := 9) hx hb hts in_M t_M t_M_ok n_M hown hU.2.1 hU.1 hU.2.2.1 hU.2.2.2 0 rfl rfl 7 (by decide) hlink (fun _ h9 => h9) rfl (by decide +kernel) rfl rfl (Nat.le_of_ble_eq_true rfl) hdg (fun H1 locs1 hP hD hS => kk H1 locs1 ?_)
  exact ⟨hP, hU.2.1, hD, hS⟩
theorem mp_X3 (hx : p.tables.exec = Jvm.exec) (hb : c.code = cc) (hts : ∀ w ∈ zt, w.before args s = true) {own : String} (hown : s.vm.findClass own = some m.cls) (hU : Ms z g H0 H locs s) {index : Nat} (hlink : (Cond.fieldLink own index R_M "v" "J").before args s = true) {v : Int64} (hdg : decode cc pc = .ok (.putfield index, 3))
    (kk : ∀ (H1 : Heap) (locs1 : List Loc), Ms z (mX g 3 v) H0 H1 locs1 s → W p l e R s m args below meth c H1 locs1 cells slots Q (F0 m (pc + 3) ls rest)) : W p l e R s m args below meth c H locs cells slots Q (F0 m pc ls (.long v :: .ref (oM z) :: rest)) := by
  refine va_put (D := z.1) (ci := 3) (v := .long v) (ty := .long) (C := R_M) (T := F_M) (N := 9) hx hb hts in_M t_M t_M_ok n_M hown hU.2.1 hU.1 hU.2.2.1 hU.2.2.2 0 rfl rfl 8 (by decide) hlink (fun _ h9 => h9) rfl (by decide +kernel) rfl rfl (Nat.le_of_ble_eq_true rfl) hdg (fun H1 locs1 hP hD hS => kk H1 locs1 ?_)
  exact ⟨hP, hU.2.1, hD, hS⟩
theorem m_iast (hx : p.tables.exec = Jvm.exec) (hb : c.code = cc) (hU : Ms z g H0 H locs s) {ix v : Int32} (hin : vp_in ix 12100) (hdg : decode cc pc = .ok (.iastore, 1))
    (kk : ∀ (H1 : Heap) (locs1 : List Loc), Ms z (mF g (upd g.2.2.2.2.2 ix.toNatClampNeg v)) H0 H1 locs1 s → W p l e R s m args below meth c H1 locs1 cells slots Q (F0 m (pc + 1) ls rest)) : W p l e R s m args below meth c H locs cells slots Q (F0 m pc ls (.int v :: .int ix :: .ref (aM z) :: rest)) := by
  refine va_iast hx hb hU.2.1 hU.1 hU.2.2.1 hU.2.2.2 1 0 rfl rfl hin hdg (fun H1 locs1 hP hD hS => kk H1 locs1 ?_)
  exact ⟨hP, hU.2.1, hD, hS⟩
theorem m_vret {post : SM → Prop} {sz : Nat} (hx : p.tables.exec = Jvm.exec) (hb : c.code = cc) (hr : meth.sig.returnType = none) (hlocks : meth.locks = false) (hsz : s.heap.size = sz) (hU : Ms z g s.heap H locs s) (hp : post g) (hdg : decode cc pc = .ok (.return_, 1)) :
    W p l e R s m args below meth c H locs 0 0 (MQ below (va_Qv post (mO z sz) (yA z sz)) args s 0 0 (yA z sz)) (F0 m pc ls []) := by
  subst hsz
  exact W.vret hx hb hr (fun t ht hW => ⟨⟨g, rfl, hp, by rw [ht]; exact hU.1, va_K.moved hW.alike hU.2.1, hU.2.2.1⟩, hU.2.2.2.F ht⟩) hU.2.2.2.2.2 hdg
theorem m_iret {post : Int32 → SM → Prop} {sz : Nat} {v : Int32} (hx : p.tables.exec = Jvm.exec) (hb : c.code = cc) (hr : meth.sig.returnType = some .int) (hlocks : meth.locks = false) (hsz : s.heap.size = sz) (hU : Ms z g s.heap H locs s) (hp : post v g) (hdg : decode cc pc = .ok (.ireturn, 1)) :
    W p l e R s m args below meth c H locs 0 0 (MQ below (va_Qi post (mO z sz) (yA z sz)) args s 0 0 (yA z sz)) (F0 m pc ls [.int v]) := by
  subst hsz
  exact W.iret hx hb hr (fun t ht hW => ⟨⟨v, g, rfl, hp, by rw [ht]; exact hU.1, va_K.moved hW.alike hU.2.1, hU.2.2.1⟩, hU.2.2.2.F ht⟩) hU.2.2.2.2.2 hdg
theorem m_zret {post : Int32 → SM → Prop} {sz : Nat} {v : Int32} (hx : p.tables.exec = Jvm.exec) (hb : c.code = cc) (hr : meth.sig.returnType = some .boolean) (hlocks : meth.locks = false) (hsz : s.heap.size = sz) (hU : Ms z g s.heap H locs s) (hv : v = 0 ∨ v = 1) (hp : post v g) (hdg : decode cc pc = .ok (.ireturn, 1)) :
    W p l e R s m args below meth c H locs 0 0 (MQ below (va_Qi post (mO z sz) (yA z sz)) args s 0 0 (yA z sz)) (F0 m pc ls [.int v]) := by
  subst hsz
  exact W.zret hx hb hr (by rcases hv with rfl | rfl <;> rfl) (fun t ht hW => ⟨⟨v, g, rfl, hp, by rw [ht]; exact hU.1, va_K.moved hW.alike hU.2.1, hU.2.2.1⟩, hU.2.2.2.F ht⟩) hU.2.2.2.2.2 hdg
theorem m_lret {post : Int64 → SM → Prop} {sz : Nat} {v : Int64} (hx : p.tables.exec = Jvm.exec) (hb : c.code = cc) (hr : meth.sig.returnType = some .long) (hlocks : meth.locks = false) (hsz : s.heap.size = sz) (hU : Ms z g s.heap H locs s) (hp : post v g) (hdg : decode cc pc = .ok (.lreturn, 1)) :
    W p l e R s m args below meth c H locs 0 0 (MQ below (va_Ql post (mO z sz) (yA z sz)) args s 0 0 (yA z sz)) (F0 m pc ls [.long v]) := by
  subst hsz
  exact W.lret hx hb hr (fun t ht hW => ⟨⟨v, g, rfl, hp, by rw [ht]; exact hU.1, va_K.moved hW.alike hU.2.1, hU.2.2.1⟩, hU.2.2.2.F ht⟩) hU.2.2.2.2.2 hdg
end MRows
theorem m_ofW {l : Launch} {y : MethodName} {cc : ByteArray} {maxL : Nat} {ret : Option FieldType} {rm : Room} {z : YM} {g : SM} {sz : Nat} {vs : List Value} {Qc : Array Value → State → Outcome → State → Prop} (hy : plainName y.cls = true) (hlen : (lg_sl vs).length ≤ maxL)
    (body : ∀ (p : Program) (e : Env) (s : State) (m : MethodId) (below : List Frame) (meth : Method) (c : Code), p.tables.exec = Jvm.exec → c.code = cc → meth.sig.returnType = ret → c.maxLocals = maxL → s.vm.findClass y.cls = some m.cls → (∀ w ∈ zt, w.before vs.toArray s = true) → meth.locks = false → meth.name = y.name → s.heap.size = sz →
      ∀ ls, Ms z g s.heap s.heap [] s → lv_has ls maxL (lv_args 0 vs) → W p l e rm s m vs.toArray below meth c s.heap [] 0 0 (MQ below Qc vs.toArray s 0 0 (yA z sz)) (F0 m 0 ls [])) :
    Met l y (zw y cc maxL ret) rm (va_Pc vs (mI z g sz)) Qc 0 0 (yA z sz) := by
  refine Met.ofW (cc := cc) (maxL := maxL) (ret := ret) hy rfl ?_
  intro p e s m args below meth c s₁ B hml hv
  obtain ⟨rfl, hsz, hP, hK, hD0⟩ := hv
  have hts := atoms_spec (ws := zw y cc maxL ret) B.pre
  have hown : s.vm.findClass y.cls = some m.cls := findClass_of_methodNamed B.named
  have hl := lv_entry vs (n := maxL) hlen
  rw [lg_entry_eq]
  exact body p e s m below meth c B.exec B.bytes B.returns hml hown (fun w hw => hts w (List.mem_cons_of_mem _ hw)) B.notSynchronized (name_of_methodNamed B.named B.method).1 hsz _ ⟨hP, hK, mD_self hD0, va_S.rf⟩ hl
theorem m_blind {z : YM} {g : SM} {sz : Nat} {vs : List Value} : FrameBlind (va_Pc vs (mI z g sz)) := fun a U gg mk q => by
  obtain ⟨q0, q1, qP, qK, qD⟩ := q
  exact ⟨q0, q1, qP, va_K.moved (u := U) (U := U.calling gg mk a) (Vm.Alike.refl U.vm) qK, qD⟩
theorem m_pre {z : YM} {g : SM} {H0 H : Heap} {locs : List Loc} {s : State} {vs : List Value} (hU : Ms z g H0 H locs s) : ∀ U : State, U.heap = H → s.WarmedH U.vm → va_Pc vs (mI z g H.size) vs.toArray U :=
  fun U hH hW => ⟨rfl, by rw [hH], by rw [hH]; exact hU.1, va_K.moved hW.alike hU.2.1, ⟨hU.2.2.1.1, fun _ _ _ => trivial⟩⟩
theorem m_recv {z : YM} {g : SM} {H0 H : Heap} {locs : List Loc} {s : State} (hU : Ms z g H0 H locs s) : ∃ cell : Cell, H[oM z]? = some cell ∧ cell.vm.isStatics = false ∧ s.vm.findClass R_M = some cell.cls := va_recv (ci := 3) (q0 := 0) hU.2.1 hU.1 rfl rfl
section MCalls
variable {p : Program} {l : Launch} {e : Env} {R : Room} {s : State} {m : MethodId} {args : Array Value} {below : List Frame} {meth : Method} {c : Code} {H H0 : Heap} {locs : List Loc} {cells slots : Nat} {Q : State → Prop} {cc : ByteArray} {pc : Nat} {ls : Array Slot} {st0 rest : List Value} {z : YM} {g : SM} {a : Array Value}
theorem m_run {own C : String} {index maxL n nL : Nat} {y : MethodName} {bytes : ByteArray} {ret : Option FieldType} {rm : Room} {Qc : Array Value → State → Outcome → State → Prop} {b : Addr} {As : List Value} (hx : p.tables.exec = Jvm.exec) (hb : c.code = cc) (hml : c.maxLocals = nL) (hown : s.vm.findClass own = some m.cls) (hts : ∀ w ∈ zt, w.before args s = true) (hU : Ms z g H0 H locs s)
    (hM : Met l y (zw y bytes maxL ret) rm (va_Pc (.ref b :: As) (mI z g H.size)) Qc 0 0 (yA z H.size)) (cw : CallW R s args own C index y bytes maxL ret (zw y bytes maxL ret) rm 0 0 n) (hv : ∃ cell : Cell, H[b]? = some cell ∧ cell.vm.isStatics = false ∧ s.vm.findClass C = some cell.cls)
    (hn : As.length = n) (hsize : ls.size = nL) (hst : st0 = As.reverse ++ .ref b :: rest) (hW : 2 * (F0 m pc ls st0).monitorRoom + (rest.map fun v => v.category).sum ≤ 8) (hdg : decode cc pc = .ok (.invokevirtual index, 3)) (hf : cells + 0 ≤ R.cells ∧ slots + 0 ≤ R.slots) :
    va_Run p l e R s m args below meth c H locs cells slots 0 0 (F0 m pc ls st0) rest (Qc (Value.ref b :: As).toArray) (yA z H.size) :=
  va_runV ⟨hx, hb, hml, hown, hts⟩ hM cw ⟨m_blind, hv, m_pre hU⟩ rfl hn hsize hst hW hdg hf
theorem m_callv {post : SM → Prop} (hr : va_Run p l e R s m args below meth c H locs cells slots 0 0 (F0 m pc ls st0) rest (va_Qv post (mO z H.size) (yA z H.size) a) (yA z H.size)) (hU : Ms z g H0 H locs s)
    (kk : ∀ (g' : SM) (H1 : Heap) (locs1 : List Loc), post g' → Ms z g' H0 H1 locs1 s → W p l e R s m args below meth c H1 locs1 cells slots Q (F0 m (pc + 3) ls rest)) : W p l e R s m args below meth c H locs cells slots Q (F0 m pc ls st0) := by
  have hle := hU.2.2.2.1
  refine va_callv hr hU.2.2.2 (fun q _ h => yA_le hle h) (fun q h => yA_le hle h) (fun u t H1 locs1 ht hvm hw hB hz1 hk1 hS => ?_)
  obtain ⟨hP1, hK1, hD1⟩ := hB
  rw [ht] at hP1
  exact kk u H1 locs1 hw ⟨hP1, va_K.moved hvm.symm hK1, ⟨hD1.1, fun k q h => yA_le hle (hD1.2 k q h)⟩, hS⟩
theorem m_calli {post : Int32 → SM → Prop} (hr : va_Run p l e R s m args below meth c H locs cells slots 0 0 (F0 m pc ls st0) rest (va_Qi post (mO z H.size) (yA z H.size) a) (yA z H.size)) (hU : Ms z g H0 H locs s)
    (kk : ∀ (r : Int32) (g' : SM) (H1 : Heap) (locs1 : List Loc), post r g' → Ms z g' H0 H1 locs1 s → W p l e R s m args below meth c H1 locs1 cells slots Q (F0 m (pc + 3) ls (.int r :: rest))) : W p l e R s m args below meth c H locs cells slots Q (F0 m pc ls st0) := by
  have hle := hU.2.2.2.1
  refine va_calli hr hU.2.2.2 (fun q _ h => yA_le hle h) (fun q h => yA_le hle h) (fun r u t H1 locs1 ht hvm hw hB hz1 hk1 hS => ?_)
  obtain ⟨hP1, hK1, hD1⟩ := hB
  rw [ht] at hP1
  exact kk r u H1 locs1 hw ⟨hP1, va_K.moved hvm.symm hK1, ⟨hD1.1, fun k q h => yA_le hle (hD1.2 k q h)⟩, hS⟩
theorem m_calll {post : Int64 → SM → Prop} (hr : va_Run p l e R s m args below meth c H locs cells slots 0 0 (F0 m pc ls st0) rest (va_Ql post (mO z H.size) (yA z H.size) a) (yA z H.size)) (hU : Ms z g H0 H locs s)
    (kk : ∀ (r : Int64) (g' : SM) (H1 : Heap) (locs1 : List Loc), post r g' → Ms z g' H0 H1 locs1 s → W p l e R s m args below meth c H1 locs1 cells slots Q (F0 m (pc + 3) ls (.long r :: rest))) : W p l e R s m args below meth c H locs cells slots Q (F0 m pc ls st0) := by
  have hle := hU.2.2.2.1
  refine va_calll hr hU.2.2.2 (fun q _ h => yA_le hle h) (fun q h => yA_le hle h) (fun r u t H1 locs1 ht hvm hw hB hz1 hk1 hS => ?_)
  obtain ⟨hP1, hK1, hD1⟩ := hB
  rw [ht] at hP1
  exact kk r u H1 locs1 hw ⟨hP1, va_K.moved hvm.symm hK1, ⟨hD1.1, fun k q h => yA_le hle (hD1.2 k q h)⟩, hS⟩
end MCalls
end
section
/-! UnitFinderModel: digits, and what is done with rows of them -/
def dv (f : Nat → Int32) (i : Nat) : Nat → Nat
  | 0 => 0
  | n + 1 => dv f i n + wn (f (1100 * i + n)) * 65536 ^ n
theorem dv_s (f : Nat → Int32) (i n : Nat) : dv f i (n + 1) = dv f i n + wn (f (1100 * i + n)) * 65536 ^ n := rfl
def dgOk (f : Nat → Int32) : Prop := ∀ q, q < 12100 → wn (f q) < 65536
def rv (f : Nat → Int32) (i : Nat) : Nat := dv f i 1100
noncomputable def WW : Nat := Classical.choose (⟨65536 ^ 1100, rfl⟩ : ∃ n : Nat, n = 65536 ^ 1100)
theorem WW_def : WW = 65536 ^ 1100 := Classical.choose_spec (⟨65536 ^ 1100, rfl⟩ : ∃ n : Nat, n = 65536 ^ 1100)
theorem dv_congr {f g : Nat → Int32} {i j : Nat} : ∀ {n : Nat}, (∀ k, k < n → f (1100 * i + k) = g (1100 * j + k)) → dv f i n = dv g j n := by
  intro n
  induction n with
  | zero => intro _; rfl
  | succ n ih => intro h; rw [dv_s, dv_s, ih (fun k hk => h k (by omega)), h n (by omega)]
theorem dv_lt {f : Nat → Int32} {i : Nat} (hi : i < 11) (h : dgOk f) : ∀ n, n ≤ 1100 → dv f i n < 65536 ^ n := by
  intro n
  induction n with
  | zero => intro _; exact Nat.one_pos
  | succ n ih =>
    intro hn
    have h1 := h (1100 * i + n) (by omega)
    have h0 := ih (by omega)
    have h2 : (wn (f (1100 * i + n)) + 1) * 65536 ^ n ≤ 65536 * 65536 ^ n := Nat.mul_le_mul_right _ (by omega)
    rw [Nat.add_mul, Nat.one_mul] at h2
    rw [dv_s, Nat.pow_succ]
    omega
theorem rv_lt {f : Nat → Int32} {i : Nat} (hi : i < 11) (h : dgOk f) : rv f i < WW := by rw [WW_def]; exact dv_lt hi h 1100 (Nat.le_refl _)
theorem dg_int {x : Int32} (h : wn x < 65536) : x.toInt = (wn x : Int) := by
  have := wn_int x
  rw [if_pos (by omega)] at this
  exact this
/-- outside row 'to' nothing has changed -/
def rsm (f g : Nat → Int32) (to : Nat) : Prop := ∀ q, (q < 1100 * to ∨ 1100 * to + 1100 ≤ q) → g q = f q
theorem rsm.rv {f g : Nat → Int32} {to i : Nat} (h : rsm f g to) (hi : i ≠ to) : rv g i = rv f i := dv_congr fun k hk => h _ (by omega)
theorem mF_mF (g : SM) (a b : Nat → Int32) : mF (mF g a) b = mF g b := rfl
theorem mF_self (g : SM) : mF g g.2.2.2.2.2 = g := rfl
set_option maxHeartbeats 4000000 in
set_option maxRecDepth 100000 in
theorem cm_get (l : Launch) (z : YM) (sz : Nat) (g : SM) {i k : Nat} (hi : i < 11) (hk : k < 1100) : Met l y_M_get (zw y_M_get b_M_get 3 (some .int)) { frames := 0, cells := 0, slots := 0, locals := 0 } (va_Pc [.ref (oM z), .int (nI i), .int (nI k)] (mI z g sz)) (va_Qi (fun r g2 => g2 = g ∧ r = g.2.2.2.2.2 (1100 * i + k)) (mO z sz) (yA z sz)) 0 0 (yA z sz) := by
  refine m_ofW (by decide) (Nat.le_of_ble_eq_true rfl) (fun p e s m below meth c hx hb hr hml hown hts hlocks hname hsz ls hU hl => ?_)
  have hl : lv_has ls 3 [(0, .ref (oM z)), (1, .int (nI i)), (2, .int (nI k))] := hl
  refine lv_aload_n hx hb d_M_get_0 rfl (lv_at hl 0 rfl) ?_
  refine va_get (D := z.1) (ci := 3) (v := .ref (aM z)) (C := R_M) (T := F_M) (N := 9) hx hb hts in_M hown hU.2.1 hU.1 0 rfl rfl 4 (by decide) (hts _ k_M_15) (fun _ h9 => h9) rfl d_M_get_1 ?_
  refine lv_sipush (v := 1100) hx hb d_M_get_4 (by decide) ?_
  refine lv_iload_n hx hb d_M_get_7 rfl (lv_at hl 1 rfl) ?_
  refine lv_imul hx hb d_M_get_8 ?_
  refine lv_topi (fun x8 ex8 => ?_)
  refine lv_iload_n hx hb d_M_get_9 rfl (lv_at hl 2 rfl) ?_
  refine lv_iadd hx hb d_M_get_10 ?_
  refine lv_topi (fun x10 ex10 => ?_)
  have e10 : x10 = nI (1100 * i + k) := by rw [ex10, ex8, show (1100 : Int32) = nI 1100 from rfl, pk_mul, nI_add]
  have hin11 : vp_in x10 12100 := by rw [e10]; exact vp_in_nI (by omega) (by decide)
  refine va_iald hx hb hU.2.1 hU.1 1 0 rfl rfl hin11 d_M_get_11 ?_
  refine lv_topi (fun x11 ex11 => ?_)
  exact m_iret hx hb hr hlocks hsz hU ⟨rfl, by rw [ex11, e10, nI_clamp (by omega)]⟩ d_M_get_12
set_option maxHeartbeats 4000000 in
set_option maxRecDepth 100000 in
theorem cm_put (l : Launch) (z : YM) (sz : Nat) (g : SM) {i k : Nat} (hi : i < 11) (hk : k < 1100) (v : Int32) : Met l y_M_put (zw y_M_put b_M_put 4 none) { frames := 0, cells := 0, slots := 0, locals := 0 } (va_Pc [.ref (oM z), .int (nI i), .int (nI k), .int v] (mI z g sz)) (va_Qv (fun g2 => g2 = mF g (upd g.2.2.2.2.2 (1100 * i + k) v)) (mO z sz) (yA z sz)) 0 0 (yA z sz) := by
  refine m_ofW (by decide) (Nat.le_of_ble_eq_true rfl) (fun p e s m below meth c hx hb hr hml hown hts hlocks hname hsz ls hU hl => ?_)
  have hl : lv_has ls 4 [(0, .ref (oM z)), (1, .int (nI i)), (2, .int (nI k)), (3, .int v)] := hl
  refine lv_aload_n hx hb d_M_put_0 rfl (lv_at hl 0 rfl) ?_
  refine va_get (D := z.1) (ci := 3) (v := .ref (aM z)) (C := R_M) (T := F_M) (N := 9) hx hb hts in_M hown hU.2.1 hU.1 0 rfl rfl 4 (by decide) (hts _ k_M_15) (fun _ h9 => h9) rfl d_M_put_1 ?_
  refine lv_sipush (v := 1100) hx hb d_M_put_4 (by decide) ?_
  refine lv_iload_n hx hb d_M_put_7 rfl (lv_at hl 1 rfl) ?_
  refine lv_imul hx hb d_M_put_8 ?_
  refine lv_topi (fun x8 ex8 => ?_)
  refine lv_iload_n hx hb d_M_put_9 rfl (lv_at hl 2 rfl) ?_
  refine lv_iadd hx hb d_M_put_10 ?_
  refine lv_topi (fun x10 ex10 => ?_)
  refine lv_iload_n hx hb d_M_put_11 rfl (lv_at hl 3 rfl) ?_
  have e10 : x10 = nI (1100 * i + k) := by rw [ex10, ex8, show (1100 : Int32) = nI 1100 from rfl, pk_mul, nI_add]
  have hin12 : vp_in x10 12100 := by rw [e10]; exact vp_in_nI (by omega) (by decide)
  refine m_iast hx hb hU hin12 d_M_put_12 (fun H locs hU => ?_)
  generalize eg12 : mF g (upd g.2.2.2.2.2 x10.toNatClampNeg v) = g12 at hU
  exact m_vret hx hb hr hlocks hsz hU (by rw [← eg12, e10, nI_clamp (by omega)]) d_M_put_13
set_option maxHeartbeats 4000000 in
set_option maxRecDepth 100000 in
theorem cm_length (l : Launch) (z : YM) (sz : Nat) (g : SM) {i : Nat} (hi : i < 11) : Met l y_M_length (zw y_M_length b_M_length 3 (some .int)) { frames := 1, cells := 0, slots := 0, locals := 22 } (va_Pc [.ref (oM z), .int (nI i)] (mI z g sz)) (va_Qi (fun r g2 => g2 = g ∧ ∃ n, n ≤ 1100 ∧ r = nI n ∧ (∀ k, n ≤ k → k < 1100 → g.2.2.2.2.2 (1100 * i + k) = 0) ∧ (n = 0 ∨ g.2.2.2.2.2 (1100 * i + (n - 1)) ≠ 0)) (mO z sz) (yA z sz)) 0 0 (yA z sz) := by
  refine m_ofW (by decide) (Nat.le_of_ble_eq_true rfl) (fun p e s m below meth c hx hb hr hml hown hts hlocks hname hsz ls hU hl => ?_)
  have hl : lv_has ls 3 [(0, .ref (oM z)), (1, .int (nI i))] := hl
  have K : ∀ (n : Nat) (H : Heap) (locs : List Loc) (ls : Array Slot), n ≤ 1100 → (∀ k, n ≤ k → k < 1100 → g.2.2.2.2.2 (1100 * i + k) = 0) → Ms z g s.heap H locs s → lv_has ls 3 [(0, .ref (oM z)), (1, .int (nI i)), (2, .int (nI n))] → W p l e ({ frames := 1, cells := 0, slots := 0, locals := 22 } : Room) s m ([.ref (oM z), .int (nI i)] : List Value).toArray below meth c H locs 0 0 (MQ below (va_Qi (fun r g2 => g2 = g ∧ ∃ n, n ≤ 1100 ∧ r = nI n ∧ (∀ k, n ≤ k → k < 1100 → g.2.2.2.2.2 (1100 * i + k) = 0) ∧ (n = 0 ∨ g.2.2.2.2.2 (1100 * i + (n - 1)) ≠ 0)) (mO z sz) (yA z sz)) ([.ref (oM z), .int (nI i)] : List Value).toArray s 0 0 (yA z sz)) (F0 m 4 ls []) := by
    intro n
    induction n with
    | zero =>
      intro H locs ls hn hz hU hl
      refine lv_iload_n hx hb d_M_length_4 rfl (lv_at hl 2 rfl) ?_
      refine lv_if_le (tgt := 25) hx hb d_M_length_5 (by decide) (fun c5 => ?_) (fun c5 => ?_)
      · refine lv_iload_n hx hb d_M_length_25 rfl (lv_at hl 2 rfl) ?_
        exact m_iret hx hb hr hlocks hsz hU ⟨rfl, 0, hn, rfl, hz, Or.inl rfl⟩ d_M_length_26
      · exact absurd (by decide) c5
    | succ n ih =>
      intro H locs ls hn hz hU hl
      refine lv_iload_n hx hb d_M_length_4 rfl (lv_at hl 2 rfl) ?_
      refine lv_if_le (tgt := 25) hx hb d_M_length_5 (by decide) (fun c5 => ?_) (fun c5 => ?_)
      · exact absurd c5 (nI_nle (by omega) (by omega))
      · refine lv_aload_n hx hb d_M_length_8 rfl (lv_at hl 0 rfl) ?_
        refine lv_iload_n hx hb d_M_length_9 rfl (lv_at hl 1 rfl) ?_
        refine lv_iload_n hx hb d_M_length_10 rfl (lv_at hl 2 rfl) ?_
        refine lv_iconst (v := 1) hx hb d_M_length_11 (by decide) ?_
        refine lv_isub hx hb d_M_length_12 ?_
        refine lv_topi (fun x12 ex12 => ?_)
        have e12 : x12 = nI n := by rw [ex12]; exact nI_pred n
        rw [e12]
        refine m_calli (m_run (As := [.int (nI i), .int (nI n)]) (rest := []) hx hb hml hown hts hU (cm_get l z _ g hi (k := n) (by omega)) (w_M_get_cw hts k_M_33 rfl rfl ⟨Nat.le_of_ble_eq_true rfl, Nat.le_of_ble_eq_true rfl⟩) (m_recv hU) rfl hl.1 rfl (lv_room (Nat.le_of_ble_eq_true rfl)) d_M_length_13 ⟨Nat.zero_le _, Nat.zero_le _⟩) hU (fun r13 g13 H locs hp hU => ?_)
        obtain ⟨q1, q2⟩ := hp
        rw [q1] at hU
        refine lv_if_ne (tgt := 25) hx hb d_M_length_16 (by decide) (fun c16 => ?_) (fun c16 => ?_)
        · refine lv_iload_n hx hb d_M_length_25 rfl (lv_at hl 2 rfl) ?_
          exact m_iret hx hb hr hlocks hsz hU ⟨rfl, n + 1, hn, rfl, hz, Or.inr (by rw [Nat.add_sub_cancel, ← q2]; exact c16)⟩ d_M_length_26
        · obtain ⟨x19, ex19⟩ : ∃ y : Int32, y = (nI (n + 1)) + Int32.ofInt (-1) := ⟨_, rfl⟩
          refine lv_iinc (v := x19) (lv' := [(2, .int x19), (0, .ref (oM z)), (1, .int (nI i))]) hx hb d_M_length_19 hl (k := 2) rfl (by rw [ex19]) (by decide) rfl (fun ls hl => ?_)
          refine lv_goto (tgt := 4) hx hb d_M_length_22 (by decide) ?_
          rw [ex19, show Int32.ofInt (-1) = -1 from rfl, pk_m1] at hl
          exact ih _ _ ls (by omega) (fun k h1 h2 => by
            by_cases h3 : k = n
            · rw [h3, ← q2]; exact c16
            · exact hz k (by omega) h2) hU (lv_sub hl [1, 2, 0] rfl)
  refine lv_sipush (v := 1100) hx hb d_M_length_0 (by decide) ?_
  refine lv_istore_n (lv' := [(2, .int 1100), (0, .ref (oM z)), (1, .int (nI i))]) hx hb d_M_length_3 rfl hl (by decide) rfl (fun ls hl => ?_)
  exact K 1100 _ _ ls (Nat.le_refl _) (fun k h1 h2 => by omega) hU (lv_sub hl [1, 2, 0] rfl)
set_option maxHeartbeats 4000000 in
set_option maxRecDepth 100000 in
theorem cm_isBelow (l : Launch) (z : YM) (sz : Nat) (g : SM) {i : Nat} (hi : i < 11) : Met l y_M_isBelow (zw y_M_isBelow b_M_isBelow 2 (some .boolean)) { frames := 1, cells := 0, slots := 0, locals := 22 } (va_Pc [.ref (oM z), .int (nI i)] (mI z g sz)) (va_Qi (fun r g2 => g2 = g ∧ r = (if 32767 < (g.2.2.2.2.2 (1100 * i + 1099)).toInt then 1 else 0)) (mO z sz) (yA z sz)) 0 0 (yA z sz) := by
  refine m_ofW (by decide) (Nat.le_of_ble_eq_true rfl) (fun p e s m below meth c hx hb hr hml hown hts hlocks hname hsz ls hU hl => ?_)
  have hl : lv_has ls 2 [(0, .ref (oM z)), (1, .int (nI i))] := hl
  refine lv_aload_n hx hb d_M_isBelow_0 rfl (lv_at hl 0 rfl) ?_
  refine lv_iload_n hx hb d_M_isBelow_1 rfl (lv_at hl 1 rfl) ?_
  refine lv_sipush (v := 1099) hx hb d_M_isBelow_2 (by decide) ?_
  refine m_calli (m_run (As := [.int (nI i), .int 1099]) (rest := []) hx hb hml hown hts hU (cm_get l z _ g hi (k := 1099) (by decide)) (w_M_get_cw hts k_M_33 rfl rfl ⟨Nat.le_of_ble_eq_true rfl, Nat.le_of_ble_eq_true rfl⟩) (m_recv hU) rfl hl.1 rfl (lv_room (Nat.le_of_ble_eq_true rfl)) d_M_isBelow_5 ⟨Nat.zero_le _, Nat.zero_le _⟩) hU (fun r5 g5 H locs hp hU => ?_)
  obtain ⟨q1, q2⟩ := hp
  rw [q1] at hU
  refine lv_sipush (v := 32767) hx hb d_M_isBelow_8 (by decide) ?_
  refine lv_icmp_le (tgt := 18) hx hb d_M_isBelow_11 (by decide) (fun c11 => ?_) (fun c11 => ?_)
  · have h11 : ¬ 32767 < (g.2.2.2.2.2 (1100 * i + 1099)).toInt := by
      rw [Int32.le_iff_toInt_le, q2, show (32767 : Int32).toInt = 32767 from rfl] at c11
      omega
    refine lv_iconst (v := 0) hx hb d_M_isBelow_18 (by decide) ?_
    exact m_zret hx hb hr hlocks hsz hU (Or.inl rfl) ⟨rfl, by rw [if_neg h11]⟩ d_M_isBelow_19
  · have h11 : 32767 < (g.2.2.2.2.2 (1100 * i + 1099)).toInt := by
      rw [Int32.le_iff_toInt_le, q2, show (32767 : Int32).toInt = 32767 from rfl] at c11
      omega
    refine lv_iconst (v := 1) hx hb d_M_isBelow_14 (by decide) ?_
    refine lv_goto (tgt := 19) hx hb d_M_isBelow_15 (by decide) ?_
    exact m_zret hx hb hr hlocks hsz hU (Or.inr rfl) ⟨rfl, by rw [if_pos h11]⟩ d_M_isBelow_19
set_option maxHeartbeats 4000000 in
set_option maxRecDepth 100000 in
theorem cm_copy (l : Launch) (z : YM) (sz : Nat) (g : SM) {to fr : Nat} (ht : to < 11) (hf : fr < 11) (hne : fr ≠ to) (hok : dgOk g.2.2.2.2.2) : Met l y_M_copy (zw y_M_copy b_M_copy 4 none) { frames := 1, cells := 0, slots := 0, locals := 23 } (va_Pc [.ref (oM z), .int (nI to), .int (nI fr)] (mI z g sz)) (va_Qv (fun g2 => ∃ f, g2 = mF g f ∧ dgOk f ∧ rsm g.2.2.2.2.2 f to ∧ rv f to = rv g.2.2.2.2.2 fr) (mO z sz) (yA z sz)) 0 0 (yA z sz) := by
  refine m_ofW (by decide) (Nat.le_of_ble_eq_true rfl) (fun p e s m below meth c hx hb hr hml hown hts hlocks hname hsz ls hU hl => ?_)
  have hl : lv_has ls 4 [(0, .ref (oM z)), (1, .int (nI to)), (2, .int (nI fr))] := hl
  obtain ⟨F, eF⟩ : ∃ y, y = g.2.2.2.2.2 := ⟨_, rfl⟩
  have K : ∀ (d k : Nat) (f : Nat → Int32) (H : Heap) (locs : List Loc) (ls : Array Slot), k + d = 1100 → (∀ q, (q < 1100 * to ∨ 1100 * to + k ≤ q) → f q = F q) → (∀ q, q < k → f (1100 * to + q) = F (1100 * fr + q)) → Ms z (mF g f) s.heap H locs s → lv_has ls 4 [(0, .ref (oM z)), (1, .int (nI to)), (2, .int (nI fr)), (3, .int (nI k))] → W p l e ({ frames := 1, cells := 0, slots := 0, locals := 23 } : Room) s m ([.ref (oM z), .int (nI to), .int (nI fr)] : List Value).toArray below meth c H locs 0 0 (MQ below (va_Qv (fun g2 => ∃ f, g2 = mF g f ∧ dgOk f ∧ rsm g.2.2.2.2.2 f to ∧ rv f to = rv g.2.2.2.2.2 fr) (mO z sz) (yA z sz)) ([.ref (oM z), .int (nI to), .int (nI fr)] : List Value).toArray s 0 0 (yA z sz)) (F0 m 2 ls []) := by
    intro d
    induction d with
    | zero =>
      intro k f H locs ls hk h1 h2 hU hl
      have hk : k = 1100 := by omega
      subst hk
      refine lv_iload_n hx hb d_M_copy_2 rfl (lv_at hl 3 rfl) ?_
      refine lv_sipush (v := 1100) hx hb d_M_copy_3 (by decide) ?_
      refine lv_icmp_ge (tgt := 27) hx hb d_M_copy_6 (by decide) (fun c6 => ?_) (fun c6 => ?_)
      · subst eF
        exact m_vret hx hb hr hlocks hsz hU ⟨f, rfl, fun q hq => by
          by_cases h : q < 1100 * to ∨ 1100 * to + 1100 ≤ q
          · rw [h1 q h]; exact hok q hq
          · obtain ⟨w, rfl⟩ : ∃ w, q = 1100 * to + w := ⟨q - 1100 * to, by omega⟩
            rw [h2 w (by omega)]; exact hok _ (by omega), h1, dv_congr h2⟩ d_M_copy_27
      · exact absurd (Int32.le_refl _) c6
    | succ d ih =>
      intro k f H locs ls hk h1 h2 hU hl
      refine lv_iload_n hx hb d_M_copy_2 rfl (lv_at hl 3 rfl) ?_
      refine lv_sipush (v := 1100) hx hb d_M_copy_3 (by decide) ?_
      refine lv_icmp_ge (tgt := 27) hx hb d_M_copy_6 (by decide) (fun c6 => ?_) (fun c6 => ?_)
      · exact absurd c6 (nI_ge (a := k) (b := 1100) (by omega) (by decide))
      · refine lv_aload_n hx hb d_M_copy_9 rfl (lv_at hl 0 rfl) ?_
        refine lv_iload_n hx hb d_M_copy_10 rfl (lv_at hl 1 rfl) ?_
        refine lv_iload_n hx hb d_M_copy_11 rfl (lv_at hl 3 rfl) ?_
        refine lv_aload_n hx hb d_M_copy_12 rfl (lv_at hl 0 rfl) ?_
        refine lv_iload_n hx hb d_M_copy_13 rfl (lv_at hl 2 rfl) ?_
        refine lv_iload_n hx hb d_M_copy_14 rfl (lv_at hl 3 rfl) ?_
        refine m_calli (m_run (As := [.int (nI fr), .int (nI k)]) (rest := [.int (nI k), .int (nI to), .ref (oM z)]) hx hb hml hown hts hU (cm_get l z _ (mF g f) hf (k := k) (by omega)) (w_M_get_cw hts k_M_33 rfl rfl ⟨Nat.le_of_ble_eq_true rfl, Nat.le_of_ble_eq_true rfl⟩) (m_recv hU) rfl hl.1 rfl (lv_room (Nat.le_of_ble_eq_true rfl)) d_M_copy_15 ⟨Nat.zero_le _, Nat.zero_le _⟩) hU (fun r15 g15 H locs hp hU => ?_)
        obtain ⟨rfl, q2⟩ := hp
        refine m_callv (m_run (As := [.int (nI to), .int (nI k), .int r15]) (rest := []) hx hb hml hown hts hU (cm_put l z _ (mF g f) ht (k := k) (by omega) r15) (w_M_put_cw hts k_M_29 rfl rfl ⟨Nat.le_of_ble_eq_true rfl, Nat.le_of_ble_eq_true rfl⟩) (m_recv hU) rfl hl.1 rfl (lv_room (Nat.le_of_ble_eq_true rfl)) d_M_copy_18 ⟨Nat.zero_le _, Nat.zero_le _⟩) hU (fun g18 H locs hp hU => ?_)
        subst hp
        obtain ⟨x21, ex21⟩ : ∃ y : Int32, y = (nI k) + Int32.ofInt 1 := ⟨_, rfl⟩
        refine lv_iinc (v := x21) (lv' := [(3, .int x21), (0, .ref (oM z)), (1, .int (nI to)), (2, .int (nI fr))]) hx hb d_M_copy_21 hl (k := 3) rfl (by rw [ex21]) (by decide) rfl (fun ls hl => ?_)
        refine lv_goto (tgt := 2) hx hb d_M_copy_24 (by decide) ?_
        rw [ex21, show Int32.ofInt 1 = 1 from rfl, nI_1] at hl
        have q2 : r15 = F (1100 * fr + k) := by rw [q2]; exact h1 _ (by omega)
        exact ih (k + 1) (upd f (1100 * to + k) r15) _ _ ls (by omega) (fun q hq => by rw [pk_un (by omega)]; exact h1 q (by omega)) (fun q hq => by
          by_cases h : q = k
          · rw [h, pk_us, q2]
          · rw [pk_un (by omega)]; exact h2 q (by omega)) hU (lv_sub hl [1, 2, 3, 0] rfl)
  refine lv_iconst (v := 0) hx hb d_M_copy_0 (by decide) ?_
  refine lv_istore_n (lv' := [(3, .int 0), (0, .ref (oM z)), (1, .int (nI to)), (2, .int (nI fr))]) hx hb d_M_copy_1 rfl hl (by decide) rfl (fun ls hl => ?_)
  exact K 1100 0 F _ _ ls (by decide) (fun _ _ => rfl) (fun q h => by omega) (by rw [eF]; exact hU) (lv_sub hl [1, 2, 3, 0] rfl)
end
section
/-! UnitFinderModel: be, combine, halve -/
theorem cs_step {V P w : Nat} {c S t s' : Int} (h : (V : Int) + c * (P : Int) = S) (ht : t = s' + c) (hw : (w : Int) = t % 65536) : ((V + w * P : Nat) : Int) + t / 65536 * ((P * 65536 : Nat) : Int) = S + s' * (P : Int) := by
  have e := Int.emod_add_mul_ediv t 65536
  have e2 : (w : Int) * P + t / 65536 * ((P * 65536 : Nat) : Int) = t * P := by
    rw [hw, Int.natCast_mul, show ((65536 : Nat) : Int) = 65536 from rfl]
    conv => rhs; rw [← e]
    rw [Int.add_mul]
    congr 1
    ac_rfl
  have e3 : t * (P : Int) = s' * P + c * P := by rw [ht, Int.add_mul]
  rw [Int.natCast_add, Int.natCast_mul w]
  omega
theorem mul_bd {a b : Int} (h1 : -2147483648 ≤ a) (h2 : a ≤ 2147483648) (h3 : 0 ≤ b) (h4 : b ≤ 65535) : -140735340871680 ≤ a * b ∧ a * b ≤ 140735340871680 := by
  have e1 : a * b ≤ 2147483648 * b := Int.mul_le_mul_of_nonneg_right h2 h3
  have e2 : -2147483648 * b ≤ a * b := Int.mul_le_mul_of_nonneg_right h1 h3
  omega
theorem wn_and16 (t : Int64) : (wn (t &&& 65535).toInt32 : Int) = t.toInt % 65536 := by
  have h1 : (t &&& 65535).toInt = t.toInt % 65536 := Jvm.Kit.i64_mask t 65535 (k := 16) (by decide) (by decide)
  have h2 := wn_l2iZ (t &&& 65535)
  rw [h2, h1]
  omega
theorem nI_wn (x : Int32) : nI (wn x) = x := by
  apply wn_inj
  show (Int32.ofNat (wn x)).toBitVec.toNat = wn x
  exact (BitVec.toNat_ofNat _ _).trans (Nat.mod_eq_of_lt (wn_lt x))
theorem wn_nI {n : Nat} (h : n < 4294967296) : wn (nI n) = n := (BitVec.toNat_ofNat n 32).trans (Nat.mod_eq_of_lt h)
theorem wn_or15 {a b : Nat} (ha : a < 32768) (hb : b < 2) : wn (nI a ||| nI (b * 32768)) = a + b * 32768 := by
  have h : wn (nI a ||| nI (b * 32768)) = wn (nI a) ||| wn (nI (b * 32768)) := UInt32.toNat_or _ _
  rw [h, wn_nI (by omega), wn_nI (by omega), Nat.or_comm, show b * 32768 = 2 ^ 15 * b by omega, ← Nat.two_pow_add_eq_or_of_lt (i := 15) ha b]
  omega
theorem dv_one {f : Nat → Int32} {i w : Nat} (h : ∀ q, q < 1100 → wn (f (1100 * i + q)) = if q = 0 then w else 0) : rv f i = w := by
  have key : ∀ n, n < 1100 → dv f i (n + 1) = w := by
    intro n
    induction n with
    | zero => intro hn; rw [dv_s, h 0 hn, if_pos rfl]; show 0 + w * 1 = w; omega
    | succ n ih => intro hn; rw [dv_s, ih (by omega), h (n + 1) hn, if_neg (by omega), Nat.zero_mul, Nat.add_zero]
  exact key 1099 (by decide)
theorem dv_stepH {V w0 X P wq wr : Nat} (h : 2 * V + w0 = X + wq % 2 * P) : 2 * (V + (wq / 2 + wr % 2 * 32768) * P) + w0 = X + wq * P + wr % 2 * (P * 65536) := by
  have e1 : wq * P = 2 * (wq / 2 * P) + wq % 2 * P := by
    conv => lhs; rw [show wq = 2 * (wq / 2) + wq % 2 by omega]
    rw [Nat.add_mul, Nat.mul_assoc]
  have e2 : wr % 2 * (P * 65536) = 2 * (wr % 2 * 32768 * P) := by
    rw [Nat.mul_comm P, ← Nat.mul_assoc, ← Nat.mul_assoc]
    congr 1
    omega
  rw [Nat.add_mul]
  omega
set_option maxHeartbeats 4000000 in
set_option maxRecDepth 100000 in
theorem cm_combine (l : Launch) (z : YM) (sz : Nat) (g : SM) {to i j : Nat} (ht : to < 11) (hi : i < 11) (hj : j < 11) {x y : Int64} (hx1 : -2147483648 ≤ x.toInt) (hx2 : x.toInt ≤ 2147483648) (hy1 : -2147483648 ≤ y.toInt) (hy2 : y.toInt ≤ 2147483648) (hok : dgOk g.2.2.2.2.2) : Met l y_M_combine (zw y_M_combine b_M_combine 13 none) { frames := 1, cells := 0, slots := 0, locals := 23 } (va_Pc [.ref (oM z), .int (nI to), .long x, .int (nI i), .long y, .int (nI j)] (mI z g sz)) (va_Qv (fun g2 => ∃ f, g2 = mF g f ∧ dgOk f ∧ rsm g.2.2.2.2.2 f to ∧ (rv f to : Int) = (x.toInt * (rv g.2.2.2.2.2 i : Int) + y.toInt * (rv g.2.2.2.2.2 j : Int)) % (WW : Int)) (mO z sz) (yA z sz)) 0 0 (yA z sz) := by
  refine m_ofW (by decide) (Nat.le_of_ble_eq_true rfl) (fun p e s m below meth c hx hb hr hml hown hts hlocks hname hsz ls hU hl => ?_)
  have hl : lv_has ls 13 [(0, .ref (oM z)), (1, .int (nI to)), (2, .long x), (4, .int (nI i)), (5, .long y), (7, .int (nI j))] := hl
  obtain ⟨F, eF⟩ : ∃ y, y = g.2.2.2.2.2 := ⟨_, rfl⟩
  have K : ∀ (d k : Nat) (f : Nat → Int32) (cr : Int64) (H : Heap) (locs : List Loc) (ls : Array Slot), k + d = 1100 → (∀ q, (q < 1100 * to ∨ 1100 * to + k ≤ q) → f q = F q) → (∀ q, q < k → wn (f (1100 * to + q)) < 65536) → (dv f to k : Int) + cr.toInt * ((65536 ^ k : Nat) : Int) = x.toInt * (dv F i k : Int) + y.toInt * (dv F j k : Int) → -17179869184 ≤ cr.toInt → cr.toInt ≤ 17179869184 → Ms z (mF g f) s.heap H locs s → lv_has ls 13 [(0, .ref (oM z)), (1, .int (nI to)), (2, .long x), (4, .int (nI i)), (5, .long y), (7, .int (nI j)), (8, .long cr), (10, .int (nI k))] → W p l e ({ frames := 1, cells := 0, slots := 0, locals := 23 } : Room) s m ([.ref (oM z), .int (nI to), .long x, .int (nI i), .long y, .int (nI j)] : List Value).toArray below meth c H locs 0 0 (MQ below (va_Qv (fun g2 => ∃ f, g2 = mF g f ∧ dgOk f ∧ rsm g.2.2.2.2.2 f to ∧ (rv f to : Int) = (x.toInt * (rv g.2.2.2.2.2 i : Int) + y.toInt * (rv g.2.2.2.2.2 j : Int)) % (WW : Int)) (mO z sz) (yA z sz)) ([.ref (oM z), .int (nI to), .long x, .int (nI i), .long y, .int (nI j)] : List Value).toArray s 0 0 (yA z sz)) (F0 m 6 ls []) := by
    intro d
    induction d with
    | zero =>
      intro k f cr H locs ls hk h1 h2 hI hc1 hc2 hU hl
      have hk : k = 1100 := by omega
      subst hk
      refine lv_iload hx hb d_M_combine_6 (lv_at hl 7 rfl) ?_
      refine lv_sipush (v := 1100) hx hb d_M_combine_8 (by decide) ?_
      refine lv_icmp_ge (tgt := 70) hx hb d_M_combine_11 (by decide) (fun c11 => ?_) (fun c11 => ?_)
      · subst eF
        have hokf : dgOk f := fun q hq => by
          by_cases h : q < 1100 * to ∨ 1100 * to + 1100 ≤ q
          · rw [h1 q h]; exact hok q hq
          · obtain ⟨w, rfl⟩ : ∃ w, q = 1100 * to + w := ⟨q - 1100 * to, by omega⟩
            exact h2 w (by omega)
        exact m_vret hx hb hr hlocks hsz hU ⟨f, rfl, hokf, h1, by
          have h3 := rv_lt ht hokf
          have hI : (rv f to : Int) + cr.toInt * (WW : Int) = x.toInt * (rv g.2.2.2.2.2 i : Int) + y.toInt * (rv g.2.2.2.2.2 j : Int) := by rw [WW_def]; exact hI
          rw [← hI, Int.add_mul_emod_self_right]
          exact (Int.emod_eq_of_lt (by omega) (by omega)).symm⟩ d_M_combine_70
      · exact absurd (Int32.le_refl _) c11
    | succ d ih =>
      intro k f cr H locs ls hk h1 h2 hI hc1 hc2 hU hl
      refine lv_iload hx hb d_M_combine_6 (lv_at hl 7 rfl) ?_
      refine lv_sipush (v := 1100) hx hb d_M_combine_8 (by decide) ?_
      refine lv_icmp_ge (tgt := 70) hx hb d_M_combine_11 (by decide) (fun c11 => ?_) (fun c11 => ?_)
      · exact absurd c11 (nI_ge (a := k) (b := 1100) (by omega) (by decide))
      · refine lv_lload_n hx hb d_M_combine_14 rfl (lv_at hl 2 rfl) ?_
        refine lv_aload_n hx hb d_M_combine_15 rfl (lv_at hl 0 rfl) ?_
        refine lv_iload hx hb d_M_combine_16 (lv_at hl 3 rfl) ?_
        refine lv_iload hx hb d_M_combine_18 (lv_at hl 7 rfl) ?_
        refine m_calli (m_run (As := [.int (nI i), .int (nI k)]) (rest := [.long x]) hx hb hml hown hts hU (cm_get l z _ (mF g f) hi (k := k) (by omega)) (w_M_get_cw hts k_M_33 rfl rfl ⟨Nat.le_of_ble_eq_true rfl, Nat.le_of_ble_eq_true rfl⟩) (m_recv hU) rfl hl.1 rfl (lv_room (Nat.le_of_ble_eq_true rfl)) d_M_combine_20 ⟨Nat.zero_le _, Nat.zero_le _⟩) hU (fun r20 g20 H locs hp hU => ?_)
        obtain ⟨rfl, q20⟩ := hp
        have q20 : r20 = F (1100 * i + k) := by rw [q20]; exact h1 _ (by omega)
        refine lv_i2l hx hb d_M_combine_23 rfl ?_
        refine lv_topl (fun x23 ex23 => ?_)
        refine lv_lmul hx hb d_M_combine_24 ?_
        refine lv_topl (fun x24 ex24 => ?_)
        refine lv_lload hx hb d_M_combine_25 (lv_at hl 4 rfl) ?_
        refine lv_aload_n hx hb d_M_combine_27 rfl (lv_at hl 0 rfl) ?_
        refine lv_iload hx hb d_M_combine_28 (lv_at hl 5 rfl) ?_
        refine lv_iload hx hb d_M_combine_30 (lv_at hl 7 rfl) ?_
        refine m_calli (m_run (As := [.int (nI j), .int (nI k)]) (rest := [.long y, .long x24]) hx hb hml hown hts hU (cm_get l z _ (mF g f) hj (k := k) (by omega)) (w_M_get_cw hts k_M_33 rfl rfl ⟨Nat.le_of_ble_eq_true rfl, Nat.le_of_ble_eq_true rfl⟩) (m_recv hU) rfl hl.1 rfl (lv_room (Nat.le_of_ble_eq_true rfl)) d_M_combine_32 ⟨Nat.zero_le _, Nat.zero_le _⟩) hU (fun r32 g32 H locs hp hU => ?_)
        obtain ⟨rfl, q32⟩ := hp
        have q32 : r32 = F (1100 * j + k) := by rw [q32]; exact h1 _ (by omega)
        refine lv_i2l hx hb d_M_combine_35 rfl ?_
        refine lv_topl (fun x35 ex35 => ?_)
        refine lv_lmul hx hb d_M_combine_36 ?_
        refine lv_topl (fun x36 ex36 => ?_)
        refine lv_ladd hx hb d_M_combine_37 ?_
        refine lv_topl (fun x37 ex37 => ?_)
        refine lv_lload hx hb d_M_combine_38 (lv_at hl 6 rfl) ?_
        refine lv_ladd hx hb d_M_combine_40 ?_
        refine lv_topl (fun x40 ex40 => ?_)
        refine lv_lstore (lv' := [(11, .long x40), (0, .ref (oM z)), (1, .int (nI to)), (2, .long x), (4, .int (nI i)), (5, .long y), (7, .int (nI j)), (8, .long cr), (10, .int (nI k))]) hx hb d_M_combine_41 hl (by decide) rfl (fun ls hl => ?_)
        refine lv_aload_n hx hb d_M_combine_43 rfl (lv_at hl 1 rfl) ?_
        refine lv_iload_n hx hb d_M_combine_44 rfl (lv_at hl 2 rfl) ?_
        refine lv_iload hx hb d_M_combine_45 (lv_at hl 8 rfl) ?_
        refine lv_lload hx hb d_M_combine_47 (lv_at hl 0 rfl) ?_
        refine lv_ldc2 (v := 65535) hx hb hown (hts _ k_M_27) d_M_combine_49 ?_
        refine lv_land hx hb d_M_combine_52 ?_
        refine lv_topl (fun x52 ex52 => ?_)
        refine lv_l2i hx hb d_M_combine_53 rfl ?_
        refine lv_topi (fun x53 ex53 => ?_)
        refine m_callv (m_run (As := [.int (nI to), .int (nI k), .int x53]) (rest := []) hx hb hml hown hts hU (cm_put l z _ (mF g f) ht (k := k) (by omega) x53) (w_M_put_cw hts k_M_29 rfl rfl ⟨Nat.le_of_ble_eq_true rfl, Nat.le_of_ble_eq_true rfl⟩) (m_recv hU) rfl hl.1 rfl (lv_room (Nat.le_of_ble_eq_true rfl)) d_M_combine_54 ⟨Nat.zero_le _, Nat.zero_le _⟩) hU (fun g54 H locs hp hU => ?_)
        subst hp
        refine lv_lload hx hb d_M_combine_57 (lv_at hl 0 rfl) ?_
        refine lv_bipush (v := 16) hx hb d_M_combine_59 (by decide) ?_
        refine lv_lshr hx hb d_M_combine_61 rfl ?_
        refine lv_topl (fun x61 ex61 => ?_)
        refine lv_lstore (lv' := [(8, .long x61), (11, .long x40), (0, .ref (oM z)), (1, .int (nI to)), (2, .long x), (4, .int (nI i)), (5, .long y), (7, .int (nI j)), (10, .int (nI k))]) hx hb d_M_combine_62 hl (by decide) rfl (fun ls hl => ?_)
        obtain ⟨x64, ex64⟩ : ∃ y : Int32, y = (nI k) + Int32.ofInt 1 := ⟨_, rfl⟩
        refine lv_iinc (v := x64) (lv' := [(10, .int x64), (8, .long x61), (11, .long x40), (0, .ref (oM z)), (1, .int (nI to)), (2, .long x), (4, .int (nI i)), (5, .long y), (7, .int (nI j))]) hx hb d_M_combine_64 hl (k := 8) rfl (by rw [ex64]) (by decide) rfl (fun ls hl => ?_)
        refine lv_goto (tgt := 6) hx hb d_M_combine_67 (by decide) ?_
        have w1 : wn (F (1100 * i + k)) < 65536 := by rw [eF]; exact hok _ (by omega)
        have w2 : wn (F (1100 * j + k)) < 65536 := by rw [eF]; exact hok _ (by omega)
        have t23 : x23.toInt = (wn (F (1100 * i + k)) : Int) := by rw [ex23, Jvm.Kit.i64_of_i32, q20]; exact dg_int w1
        have t35 : x35.toInt = (wn (F (1100 * j + k)) : Int) := by rw [ex35, Jvm.Kit.i64_of_i32, q32]; exact dg_int w2
        obtain ⟨b1, b2⟩ := mul_bd hx1 hx2 (b := (wn (F (1100 * i + k)) : Int)) (by omega) (by omega)
        obtain ⟨b3, b4⟩ := mul_bd hy1 hy2 (b := (wn (F (1100 * j + k)) : Int)) (by omega) (by omega)
        have t24 : x24.toInt = x.toInt * (wn (F (1100 * i + k)) : Int) := by rw [ex24, Jvm.Kit.i64_mul] <;> rw [t23] <;> omega
        have t36 : x36.toInt = y.toInt * (wn (F (1100 * j + k)) : Int) := by rw [ex36, Jvm.Kit.i64_mul] <;> rw [t35] <;> omega
        have t37 : x37.toInt = x.toInt * (wn (F (1100 * i + k)) : Int) + y.toInt * (wn (F (1100 * j + k)) : Int) := by rw [ex37, Jvm.Kit.i64_add] <;> rw [t24, t36] <;> omega
        have t40 : x40.toInt = x.toInt * (wn (F (1100 * i + k)) : Int) + y.toInt * (wn (F (1100 * j + k)) : Int) + cr.toInt := by rw [ex40, Jvm.Kit.i64_add] <;> rw [t37] <;> omega
        have t61 : x61.toInt = x40.toInt / 65536 := by rw [ex61]; exact Jvm.Kit.i64_shr x40 _ (k := 16) (by decide)
        have t53 : (wn x53 : Int) = x40.toInt % 65536 := by rw [ex53, ex52]; exact wn_and16 x40
        rw [ex64, show Int32.ofInt 1 = 1 from rfl, nI_1] at hl
        exact ih (k + 1) (upd f (1100 * to + k) x53) x61 _ _ ls (by omega) (fun q hq => by rw [pk_un (by omega)]; exact h1 q (by omega)) (fun q hq => by
          by_cases h : q = k
          · rw [h, pk_us]; omega
          · rw [pk_un (by omega)]; exact h2 q (by omega)) (by
          rw [dv_s, pk_us, dv_congr (f := upd f (1100 * to + k) x53) (g := f) (j := to) (fun q hq => pk_un (by omega)), t61, dv_s, dv_s, Nat.pow_succ]
          refine (cs_step hI t40 t53).trans ?_
          rw [Int.natCast_add, Int.natCast_add, Int.natCast_mul, Int.natCast_mul, Int.mul_add, Int.mul_add, Int.add_mul, Int.mul_assoc, Int.mul_assoc]
          omega) (by rw [t61]; omega) (by rw [t61]; omega) hU (lv_sub hl [3, 4, 5, 6, 7, 8, 1, 0] rfl)
  refine lv_lconst (v := 0) hx hb d_M_combine_0 (by decide) ?_
  refine lv_lstore (lv' := [(8, .long 0), (0, .ref (oM z)), (1, .int (nI to)), (2, .long x), (4, .int (nI i)), (5, .long y), (7, .int (nI j))]) hx hb d_M_combine_1 hl (by decide) rfl (fun ls hl => ?_)
  refine lv_iconst (v := 0) hx hb d_M_combine_3 (by decide) ?_
  refine lv_istore (lv' := [(10, .int 0), (8, .long 0), (0, .ref (oM z)), (1, .int (nI to)), (2, .long x), (4, .int (nI i)), (5, .long y), (7, .int (nI j))]) hx hb d_M_combine_4 hl (by decide) rfl (fun ls hl => ?_)
  exact K 1100 0 F 0 _ _ ls (by decide) (fun _ _ => rfl) (fun q h => by omega) (by show (0 : Int) + 0 * _ = x.toInt * 0 + y.toInt * 0; rw [Int.mul_zero, Int.mul_zero, Int.zero_mul]) (by decide) (by decide) (by rw [eF]; exact hU) (lv_sub hl [2, 3, 4, 5, 6, 7, 1, 0] rfl)
set_option maxHeartbeats 4000000 in
set_option maxRecDepth 100000 in
theorem cm_be (l : Launch) (z : YM) (sz : Nat) (g : SM) {to : Nat} (ht : to < 11) {w : Nat} (hw : w < 65536) (hok : dgOk g.2.2.2.2.2) : Met l y_M_be (zw y_M_be b_M_be 5 none) { frames := 1, cells := 0, slots := 0, locals := 23 } (va_Pc [.ref (oM z), .int (nI to), .long (lN w)] (mI z g sz)) (va_Qv (fun g2 => ∃ f, g2 = mF g f ∧ dgOk f ∧ rsm g.2.2.2.2.2 f to ∧ rv f to = w) (mO z sz) (yA z sz)) 0 0 (yA z sz) := by
  refine m_ofW (by decide) (Nat.le_of_ble_eq_true rfl) (fun p e s m below meth c hx hb hr hml hown hts hlocks hname hsz ls hU hl => ?_)
  have hl : lv_has ls 5 [(0, .ref (oM z)), (1, .int (nI to)), (2, .long (lN w))] := hl
  obtain ⟨F, eF⟩ : ∃ y, y = g.2.2.2.2.2 := ⟨_, rfl⟩
  have tw : (lN w).toInt = (w : Int) := pk_lT (by omega)
  have EP : ∀ (d k : Nat) (f : Nat → Int32) (v : Int64) (H : Heap) (locs : List Loc) (ls : Array Slot), (∀ (k : Nat) (f : Nat → Int32) (H : Heap) (locs : List Loc) (ls : Array Slot), k + d = 1100 → (∀ q, (q < 1100 * to ∨ 1100 * to + k ≤ q) → f q = F q) → (∀ q, q < k → wn (f (1100 * to + q)) = if q = 0 then w else 0) → Ms z (mF g f) s.heap H locs s → lv_has ls 5 [(0, .ref (oM z)), (1, .int (nI to)), (2, .long (lN w)), (4, .int (nI k))] → W p l e ({ frames := 1, cells := 0, slots := 0, locals := 23 } : Room) s m ([.ref (oM z), .int (nI to), .long (lN w)] : List Value).toArray below meth c H locs 0 0 (MQ below (va_Qv (fun g2 => ∃ f, g2 = mF g f ∧ dgOk f ∧ rsm g.2.2.2.2.2 f to ∧ rv f to = w) (mO z sz) (yA z sz)) ([.ref (oM z), .int (nI to), .long (lN w)] : List Value).toArray s 0 0 (yA z sz)) (F0 m 3 ls [])) → k + (d + 1) = 1100 → (∀ q, (q < 1100 * to ∨ 1100 * to + k ≤ q) → f q = F q) → (∀ q, q < k → wn (f (1100 * to + q)) = if q = 0 then w else 0) → v.toInt = (if k = 0 then (w : Int) else 0) → Ms z (mF g f) s.heap H locs s → lv_has ls 5 [(0, .ref (oM z)), (1, .int (nI to)), (2, .long (lN w)), (4, .int (nI k))] → W p l e ({ frames := 1, cells := 0, slots := 0, locals := 23 } : Room) s m ([.ref (oM z), .int (nI to), .long (lN w)] : List Value).toArray below meth c H locs 0 0 (MQ below (va_Qv (fun g2 => ∃ f, g2 = mF g f ∧ dgOk f ∧ rsm g.2.2.2.2.2 f to ∧ rv f to = w) (mO z sz) (yA z sz)) ([.ref (oM z), .int (nI to), .long (lN w)] : List Value).toArray s 0 0 (yA z sz)) (F0 m 35 ls [.long v, .int (nI k), .int (nI to), .ref (oM z)]) := by
    intro d k f v H locs ls ih hk h1 h2 hv hU hl
    refine lv_ldc2 (v := 65535) hx hb hown (hts _ k_M_27) d_M_be_35 ?_
    refine lv_land hx hb d_M_be_38 ?_
    refine lv_topl (fun x38 ex38 => ?_)
    refine lv_l2i hx hb d_M_be_39 rfl ?_
    refine lv_topi (fun x39 ex39 => ?_)
    refine m_callv (m_run (As := [.int (nI to), .int (nI k), .int x39]) (rest := []) hx hb hml hown hts hU (cm_put l z _ (mF g f) ht (k := k) (by omega) x39) (w_M_put_cw hts k_M_29 rfl rfl ⟨Nat.le_of_ble_eq_true rfl, Nat.le_of_ble_eq_true rfl⟩) (m_recv hU) rfl hl.1 rfl (lv_room (Nat.le_of_ble_eq_true rfl)) d_M_be_40 ⟨Nat.zero_le _, Nat.zero_le _⟩) hU (fun g40 H locs hp hU => ?_)
    subst hp
    obtain ⟨x43, ex43⟩ : ∃ y : Int32, y = (nI k) + Int32.ofInt 1 := ⟨_, rfl⟩
    refine lv_iinc (v := x43) (lv' := [(4, .int x43), (0, .ref (oM z)), (1, .int (nI to)), (2, .long (lN w))]) hx hb d_M_be_43 hl (k := 3) rfl (by rw [ex43]) (by decide) rfl (fun ls hl => ?_)
    refine lv_goto (tgt := 3) hx hb d_M_be_46 (by decide) ?_
    have t39 : (wn x39 : Int) = v.toInt % 65536 := by rw [ex39, ex38]; exact wn_and16 v
    rw [ex43, show Int32.ofInt 1 = 1 from rfl, nI_1] at hl
    exact ih (k + 1) (upd f (1100 * to + k) x39) _ _ ls (by omega) (fun q hq => by rw [pk_un (by omega)]; exact h1 q (by omega)) (fun q hq => by
      by_cases h : q = k
      · rw [h, pk_us]
        rw [hv] at t39
        split at t39 <;> rename_i h9
        · rw [if_pos h9]; omega
        · rw [if_neg h9]; omega
      · rw [pk_un (by omega)]; exact h2 q (by omega)) hU (lv_sub hl [1, 2, 3, 0] rfl)
  have K : ∀ (d k : Nat) (f : Nat → Int32) (H : Heap) (locs : List Loc) (ls : Array Slot), k + d = 1100 → (∀ q, (q < 1100 * to ∨ 1100 * to + k ≤ q) → f q = F q) → (∀ q, q < k → wn (f (1100 * to + q)) = if q = 0 then w else 0) → Ms z (mF g f) s.heap H locs s → lv_has ls 5 [(0, .ref (oM z)), (1, .int (nI to)), (2, .long (lN w)), (4, .int (nI k))] → W p l e ({ frames := 1, cells := 0, slots := 0, locals := 23 } : Room) s m ([.ref (oM z), .int (nI to), .long (lN w)] : List Value).toArray below meth c H locs 0 0 (MQ below (va_Qv (fun g2 => ∃ f, g2 = mF g f ∧ dgOk f ∧ rsm g.2.2.2.2.2 f to ∧ rv f to = w) (mO z sz) (yA z sz)) ([.ref (oM z), .int (nI to), .long (lN w)] : List Value).toArray s 0 0 (yA z sz)) (F0 m 3 ls []) := by
    intro d
    induction d with
    | zero =>
      intro k f H locs ls hk h1 h2 hU hl
      have hk : k = 1100 := by omega
      subst hk
      refine lv_iload hx hb d_M_be_3 (lv_at hl 3 rfl) ?_
      refine lv_sipush (v := 1100) hx hb d_M_be_5 (by decide) ?_
      refine lv_icmp_ge (tgt := 49) hx hb d_M_be_8 (by decide) (fun c8 => ?_) (fun c8 => ?_)
      · subst eF
        exact m_vret hx hb hr hlocks hsz hU ⟨f, rfl, fun q hq => by
          by_cases h : q < 1100 * to ∨ 1100 * to + 1100 ≤ q
          · rw [h1 q h]; exact hok q hq
          · obtain ⟨u, rfl⟩ : ∃ u, q = 1100 * to + u := ⟨q - 1100 * to, by omega⟩
            rw [h2 u (by omega)]; split <;> omega, h1, dv_one h2⟩ d_M_be_49
      · exact absurd (Int32.le_refl _) c8
    | succ d ih =>
      intro k f H locs ls hk h1 h2 hU hl
      refine lv_iload hx hb d_M_be_3 (lv_at hl 3 rfl) ?_
      refine lv_sipush (v := 1100) hx hb d_M_be_5 (by decide) ?_
      refine lv_icmp_ge (tgt := 49) hx hb d_M_be_8 (by decide) (fun c8 => ?_) (fun c8 => ?_)
      · exact absurd c8 (nI_ge (a := k) (b := 1100) (by omega) (by decide))
      · refine lv_aload_n hx hb d_M_be_11 rfl (lv_at hl 0 rfl) ?_
        refine lv_iload_n hx hb d_M_be_12 rfl (lv_at hl 1 rfl) ?_
        refine lv_iload hx hb d_M_be_13 (lv_at hl 3 rfl) ?_
        refine lv_iload hx hb d_M_be_15 (lv_at hl 3 rfl) ?_
        refine lv_iconst (v := 4) hx hb d_M_be_17 (by decide) ?_
        refine lv_icmp_ge (tgt := 31) hx hb d_M_be_18 (by decide) (fun c18 => ?_) (fun c18 => ?_)
        · have h18 : 4 ≤ k := (nI_leI (a := 4) (b := k) (by decide) (by omega)).mp c18
          refine lv_lload_n hx hb d_M_be_31 rfl (lv_at hl 2 rfl) ?_
          refine lv_bipush (v := 63) hx hb d_M_be_32 (by decide) ?_
          refine lv_lshr hx hb d_M_be_34 rfl ?_
          refine lv_topl (fun x34 ex34 => ?_)
          exact EP d k f x34 _ _ ls ih hk h1 h2 (by
            have h9 : x34.toInt = (lN w).toInt / 2 ^ 63 := by rw [ex34]; exact Jvm.Kit.i64_shr (lN w) _ (k := 63) (by decide)
            rw [h9, tw, if_neg (by omega)]
            omega) hU (lv_sub hl [0, 1, 2, 3] rfl)
        · have h18 : k < 4 := Nat.lt_of_not_le (fun q => c18 ((nI_leI (a := 4) (b := k) (by decide) (by omega)).mpr q))
          refine lv_lload_n hx hb d_M_be_21 rfl (lv_at hl 2 rfl) ?_
          refine lv_bipush (v := 16) hx hb d_M_be_22 (by decide) ?_
          refine lv_iload hx hb d_M_be_24 (lv_at hl 3 rfl) ?_
          refine lv_imul hx hb d_M_be_26 ?_
          refine lv_topi (fun x26 ex26 => ?_)
          refine lv_lshr hx hb d_M_be_27 rfl ?_
          refine lv_topl (fun x27 ex27 => ?_)
          refine lv_goto (tgt := 35) hx hb d_M_be_28 (by decide) ?_
          have e26 : x26 = nI (16 * k) := by rw [ex26]; exact pk_mul 16 k
          exact EP d k f x27 _ _ ls ih hk h1 h2 (by
            rw [ex27, e26]
            rcases (show k = 0 ∨ k = 1 ∨ k = 2 ∨ k = 3 by omega) with rfl | rfl | rfl | rfl
            · rw [Jvm.Kit.i64_shr (lN w) _ (k := 0) (by decide), tw, if_pos rfl]; omega
            · rw [Jvm.Kit.i64_shr (lN w) _ (k := 16) (by decide), tw, if_neg (by decide)]; omega
            · rw [Jvm.Kit.i64_shr (lN w) _ (k := 32) (by decide), tw, if_neg (by decide)]; omega
            · rw [Jvm.Kit.i64_shr (lN w) _ (k := 48) (by decide), tw, if_neg (by decide)]; omega) hU (lv_sub hl [0, 1, 2, 3] rfl)
  refine lv_iconst (v := 0) hx hb d_M_be_0 (by decide) ?_
  refine lv_istore (lv' := [(4, .int 0), (0, .ref (oM z)), (1, .int (nI to)), (2, .long (lN w))]) hx hb d_M_be_1 hl (by decide) rfl (fun ls hl => ?_)
  exact K 1100 0 F _ _ ls (by decide) (fun _ _ => rfl) (fun q h => by omega) (by rw [eF]; exact hU) (lv_sub hl [1, 2, 3, 0] rfl)
set_option maxHeartbeats 4000000 in
set_option maxRecDepth 100000 in
theorem cm_halve (l : Launch) (z : YM) (sz : Nat) (g : SM) {i : Nat} (hi : i < 11) (hok : dgOk g.2.2.2.2.2) : Met l y_M_halve (zw y_M_halve b_M_halve 4 none) { frames := 1, cells := 0, slots := 0, locals := 23 } (va_Pc [.ref (oM z), .int (nI i)] (mI z g sz)) (va_Qv (fun g2 => ∃ f, g2 = mF g f ∧ dgOk f ∧ rsm g.2.2.2.2.2 f i ∧ rv f i = (rv g.2.2.2.2.2 i + (if 32767 < wn (g.2.2.2.2.2 (1100 * i + 1099)) then 1 else 0) * WW) / 2) (mO z sz) (yA z sz)) 0 0 (yA z sz) := by
  refine m_ofW (by decide) (Nat.le_of_ble_eq_true rfl) (fun p e s m below meth c hx hb hr hml hown hts hlocks hname hsz ls hU hl => ?_)
  have hl : lv_has ls 4 [(0, .ref (oM z)), (1, .int (nI i))] := hl
  obtain ⟨F, eF⟩ : ∃ y, y = g.2.2.2.2.2 := ⟨_, rfl⟩
  have hokF : dgOk F := by rw [eF]; exact hok
  obtain ⟨sg, esg⟩ : ∃ y, y = (if 32767 < wn (F (1100 * i + 1099)) then 1 else 0) := ⟨_, rfl⟩
  have hsg : sg ≤ 1 := by rw [esg]; split <;> omega
  have E : ∀ (d k : Nat) (nx : Nat) (f : Nat → Int32) (H : Heap) (locs : List Loc) (ls : Array Slot), (∀ (k : Nat) (f : Nat → Int32) (H : Heap) (locs : List Loc) (ls : Array Slot), k + d = 1100 → (∀ q, (q < 1100 * i ∨ 1100 * i + k ≤ q) → f q = F q) → (∀ q, q < k → wn (f (1100 * i + q)) < 65536) → 2 * dv f i k + wn (F (1100 * i)) % 2 = dv F i k + (if k < 1100 then wn (F (1100 * i + k)) % 2 else sg) * 65536 ^ k → Ms z (mF g f) s.heap H locs s → lv_has ls 4 [(0, .ref (oM z)), (1, .int (nI i)), (2, .int (nI k))] → W p l e ({ frames := 1, cells := 0, slots := 0, locals := 23 } : Room) s m ([.ref (oM z), .int (nI i)] : List Value).toArray below meth c H locs 0 0 (MQ below (va_Qv (fun g2 => ∃ f, g2 = mF g f ∧ dgOk f ∧ rsm g.2.2.2.2.2 f i ∧ rv f i = (rv g.2.2.2.2.2 i + (if 32767 < wn (g.2.2.2.2.2 (1100 * i + 1099)) then 1 else 0) * WW) / 2) (mO z sz) (yA z sz)) ([.ref (oM z), .int (nI i)] : List Value).toArray s 0 0 (yA z sz)) (F0 m 2 ls [])) → k + (d + 1) = 1100 → (∀ q, (q < 1100 * i ∨ 1100 * i + k ≤ q) → f q = F q) → (∀ q, q < k → wn (f (1100 * i + q)) < 65536) → 2 * dv f i k + wn (F (1100 * i)) % 2 = dv F i k + wn (F (1100 * i + k)) % 2 * 65536 ^ k → nx < 65536 → nx % 2 = (if k + 1 < 1100 then wn (F (1100 * i + (k + 1))) % 2 else sg) → Ms z (mF g f) s.heap H locs s → lv_has ls 4 [(0, .ref (oM z)), (1, .int (nI i)), (2, .int (nI k))] → W p l e ({ frames := 1, cells := 0, slots := 0, locals := 23 } : Room) s m ([.ref (oM z), .int (nI i)] : List Value).toArray below meth c H locs 0 0 (MQ below (va_Qv (fun g2 => ∃ f, g2 = mF g f ∧ dgOk f ∧ rsm g.2.2.2.2.2 f i ∧ rv f i = (rv g.2.2.2.2.2 i + (if 32767 < wn (g.2.2.2.2.2 (1100 * i + 1099)) then 1 else 0) * WW) / 2) (mO z sz) (yA z sz)) ([.ref (oM z), .int (nI i)] : List Value).toArray s 0 0 (yA z sz)) (F0 m 46 ls [.int (nI nx)]) := by
    intro d k nx f H locs ls ih hk h1 h2 hI hn1 hn2 hU hl
    refine lv_istore_n (lv' := [(3, .int (nI nx)), (0, .ref (oM z)), (1, .int (nI i)), (2, .int (nI k))]) hx hb d_M_halve_46 rfl hl (by decide) rfl (fun ls hl => ?_)
    refine lv_aload_n hx hb d_M_halve_47 rfl (lv_at hl 1 rfl) ?_
    refine lv_iload_n hx hb d_M_halve_48 rfl (lv_at hl 2 rfl) ?_
    refine lv_iload_n hx hb d_M_halve_49 rfl (lv_at hl 3 rfl) ?_
    refine lv_aload_n hx hb d_M_halve_50 rfl (lv_at hl 1 rfl) ?_
    refine lv_iload_n hx hb d_M_halve_51 rfl (lv_at hl 2 rfl) ?_
    refine lv_iload_n hx hb d_M_halve_52 rfl (lv_at hl 3 rfl) ?_
    refine m_calli (m_run (As := [.int (nI i), .int (nI k)]) (rest := [.int (nI k), .int (nI i), .ref (oM z)]) hx hb hml hown hts hU (cm_get l z _ (mF g f) hi (k := k) (by omega)) (w_M_get_cw hts k_M_33 rfl rfl ⟨Nat.le_of_ble_eq_true rfl, Nat.le_of_ble_eq_true rfl⟩) (m_recv hU) rfl hl.1 rfl (lv_room (Nat.le_of_ble_eq_true rfl)) d_M_halve_53 ⟨Nat.zero_le _, Nat.zero_le _⟩) hU (fun r53 g53 H locs hp hU => ?_)
    obtain ⟨rfl, q53⟩ := hp
    have q53 : r53 = F (1100 * i + k) := by rw [q53]; exact h1 _ (by omega)
    refine lv_iconst (v := 1) hx hb d_M_halve_56 (by decide) ?_
    refine lv_ishr hx hb d_M_halve_57 ?_
    refine lv_topi (fun x57 ex57 => ?_)
    refine lv_iload_n hx hb d_M_halve_58 rfl (lv_at hl 0 rfl) ?_
    refine lv_iconst (v := 1) hx hb d_M_halve_59 (by decide) ?_
    refine lv_iand hx hb d_M_halve_60 ?_
    refine lv_topi (fun x60 ex60 => ?_)
    refine lv_bipush (v := 15) hx hb d_M_halve_61 (by decide) ?_
    refine lv_ishl hx hb d_M_halve_63 ?_
    refine lv_topi (fun x63 ex63 => ?_)
    refine lv_ior hx hb d_M_halve_64 ?_
    refine lv_topi (fun x64 ex64 => ?_)
    refine m_callv (m_run (As := [.int (nI i), .int (nI k), .int x64]) (rest := []) hx hb hml hown hts hU (cm_put l z _ (mF g f) hi (k := k) (by omega) x64) (w_M_put_cw hts k_M_29 rfl rfl ⟨Nat.le_of_ble_eq_true rfl, Nat.le_of_ble_eq_true rfl⟩) (m_recv hU) rfl hl.1 rfl (lv_room (Nat.le_of_ble_eq_true rfl)) d_M_halve_65 ⟨Nat.zero_le _, Nat.zero_le _⟩) hU (fun g65 H locs hp hU => ?_)
    subst hp
    obtain ⟨x68, ex68⟩ : ∃ y : Int32, y = (nI k) + Int32.ofInt 1 := ⟨_, rfl⟩
    refine lv_iinc (v := x68) (lv' := [(2, .int x68), (3, .int (nI nx)), (0, .ref (oM z)), (1, .int (nI i))]) hx hb d_M_halve_68 hl (k := 3) rfl (by rw [ex68]) (by decide) rfl (fun ls hl => ?_)
    refine lv_goto (tgt := 2) hx hb d_M_halve_71 (by decide) ?_
    have w1 : wn (F (1100 * i + k)) < 65536 := hokF _ (by omega)
    have e53 : r53 = nI (wn (F (1100 * i + k))) := by rw [q53]; exact (nI_wn _).symm
    have e57 : x57 = nI (wn (F (1100 * i + k)) / 2) := by rw [ex57, e53]; exact pk_shrN (by omega) 1 1 (by decide)
    have e60 : x60 = nI (nx % 2) := by rw [ex60]; exact pk_andN (by omega) 1 (by decide)
    have e63 : x63 = nI (nx % 2 * 32768) := by rw [ex63, e60]; exact pk_shlN 15 15 (by decide) (by omega)
    have v64 : wn x64 = wn (F (1100 * i + k)) / 2 + nx % 2 * 32768 := by rw [ex64, e57, e63]; exact wn_or15 (by omega) (by omega)
    rw [ex68, show Int32.ofInt 1 = 1 from rfl, nI_1] at hl
    exact ih (k + 1) (upd f (1100 * i + k) x64) _ _ ls (by omega) (fun q hq => by rw [pk_un (by omega)]; exact h1 q (by omega)) (fun q hq => by
      by_cases h : q = k
      · rw [h, pk_us, v64]; omega
      · rw [pk_un (by omega)]; exact h2 q (by omega)) (by
      rw [dv_s, pk_us, dv_congr (f := upd f (1100 * i + k) x64) (g := f) (j := i) (fun q hq => pk_un (by omega)), v64, dv_s, ← hn2, Nat.pow_succ]
      exact dv_stepH hI) hU (lv_sub hl [2, 3, 0] rfl)
  have K : ∀ (d k : Nat) (f : Nat → Int32) (H : Heap) (locs : List Loc) (ls : Array Slot), k + d = 1100 → (∀ q, (q < 1100 * i ∨ 1100 * i + k ≤ q) → f q = F q) → (∀ q, q < k → wn (f (1100 * i + q)) < 65536) → 2 * dv f i k + wn (F (1100 * i)) % 2 = dv F i k + (if k < 1100 then wn (F (1100 * i + k)) % 2 else sg) * 65536 ^ k → Ms z (mF g f) s.heap H locs s → lv_has ls 4 [(0, .ref (oM z)), (1, .int (nI i)), (2, .int (nI k))] → W p l e ({ frames := 1, cells := 0, slots := 0, locals := 23 } : Room) s m ([.ref (oM z), .int (nI i)] : List Value).toArray below meth c H locs 0 0 (MQ below (va_Qv (fun g2 => ∃ f, g2 = mF g f ∧ dgOk f ∧ rsm g.2.2.2.2.2 f i ∧ rv f i = (rv g.2.2.2.2.2 i + (if 32767 < wn (g.2.2.2.2.2 (1100 * i + 1099)) then 1 else 0) * WW) / 2) (mO z sz) (yA z sz)) ([.ref (oM z), .int (nI i)] : List Value).toArray s 0 0 (yA z sz)) (F0 m 2 ls []) := by
    intro d
    induction d with
    | zero =>
      intro k f H locs ls hk h1 h2 hI hU hl
      have hk : k = 1100 := by omega
      subst hk
      refine lv_iload_n hx hb d_M_halve_2 rfl (lv_at hl 2 rfl) ?_
      refine lv_sipush (v := 1100) hx hb d_M_halve_3 (by decide) ?_
      refine lv_icmp_ge (tgt := 74) hx hb d_M_halve_6 (by decide) (fun c6 => ?_) (fun c6 => ?_)
      · subst eF
        rw [if_neg (by decide)] at hI
        have hI : 2 * rv f i + wn (g.2.2.2.2.2 (1100 * i)) % 2 = rv g.2.2.2.2.2 i + sg * WW := by rw [WW_def]; exact hI
        exact m_vret hx hb hr hlocks hsz hU ⟨f, rfl, fun q hq => by
          by_cases h : q < 1100 * i ∨ 1100 * i + 1100 ≤ q
          · rw [h1 q h]; exact hok q hq
          · obtain ⟨u, rfl⟩ : ∃ u, q = 1100 * i + u := ⟨q - 1100 * i, by omega⟩
            exact h2 u (by omega), h1, by rw [← esg]; omega⟩ d_M_halve_74
      · exact absurd (Int32.le_refl _) c6
    | succ d ih =>
      intro k f H locs ls hk h1 h2 hI hU hl
      rw [if_pos (by omega)] at hI
      refine lv_iload_n hx hb d_M_halve_2 rfl (lv_at hl 2 rfl) ?_
      refine lv_sipush (v := 1100) hx hb d_M_halve_3 (by decide) ?_
      refine lv_icmp_ge (tgt := 74) hx hb d_M_halve_6 (by decide) (fun c6 => ?_) (fun c6 => ?_)
      · exact absurd c6 (nI_ge (a := k) (b := 1100) (by omega) (by decide))
      · refine lv_iload_n hx hb d_M_halve_9 rfl (lv_at hl 2 rfl) ?_
        refine lv_iconst (v := 1) hx hb d_M_halve_10 (by decide) ?_
        refine lv_iadd hx hb d_M_halve_11 ?_
        refine lv_topi (fun x11 ex11 => ?_)
        refine lv_sipush (v := 1100) hx hb d_M_halve_12 (by decide) ?_
        have e11 : x11 = nI (k + 1) := by rw [ex11]; exact nI_1 k
        refine lv_icmp_ge (tgt := 29) hx hb d_M_halve_15 (by decide) (fun c15 => ?_) (fun c15 => ?_)
        · have h15 : k = 1099 := by
            rw [e11] at c15
            have := (nI_leI (a := 1100) (b := k + 1) (by decide) (by omega)).mp c15
            omega
          refine lv_aload_n hx hb d_M_halve_29 rfl (lv_at hl 0 rfl) ?_
          refine lv_iload_n hx hb d_M_halve_30 rfl (lv_at hl 1 rfl) ?_
          refine lv_iload_n hx hb d_M_halve_31 rfl (lv_at hl 2 rfl) ?_
          refine m_calli (m_run (As := [.int (nI i), .int (nI k)]) (rest := []) hx hb hml hown hts hU (cm_get l z _ (mF g f) hi (k := k) (by omega)) (w_M_get_cw hts k_M_33 rfl rfl ⟨Nat.le_of_ble_eq_true rfl, Nat.le_of_ble_eq_true rfl⟩) (m_recv hU) rfl hl.1 rfl (lv_room (Nat.le_of_ble_eq_true rfl)) d_M_halve_32 ⟨Nat.zero_le _, Nat.zero_le _⟩) hU (fun r32 g32 H locs hp hU => ?_)
          obtain ⟨rfl, q32⟩ := hp
          have q32 : r32 = F (1100 * i + k) := by rw [q32]; exact h1 _ (by omega)
          have w1 : wn (F (1100 * i + k)) < 65536 := hokF _ (by omega)
          have t32 : r32.toInt = (wn (F (1100 * i + k)) : Int) := by rw [q32]; exact dg_int w1
          refine lv_sipush (v := 32767) hx hb d_M_halve_35 (by decide) ?_
          refine lv_icmp_le (tgt := 45) hx hb d_M_halve_38 (by decide) (fun c38 => ?_) (fun c38 => ?_)
          · have h38 : ¬ 32767 < wn (F (1100 * i + k)) := by
              rw [Int32.le_iff_toInt_le, t32, show (32767 : Int32).toInt = 32767 from rfl] at c38
              omega
            refine lv_iconst (v := 0) hx hb d_M_halve_45 (by decide) ?_
            exact E d k 0 f _ _ ls ih hk h1 h2 hI (by decide) (by rw [if_neg (by omega), esg, ← h15, if_neg h38]) hU (lv_sub hl [0, 1, 2] rfl)
          · have h38 : 32767 < wn (F (1100 * i + k)) := by
              rw [Int32.le_iff_toInt_le, t32, show (32767 : Int32).toInt = 32767 from rfl] at c38
              omega
            refine lv_iconst (v := 1) hx hb d_M_halve_41 (by decide) ?_
            refine lv_goto (tgt := 46) hx hb d_M_halve_42 (by decide) ?_
            exact E d k 1 f _ _ ls ih hk h1 h2 hI (by decide) (by rw [if_neg (by omega), esg, ← h15, if_pos h38]) hU (lv_sub hl [0, 1, 2] rfl)
        · have h15 : k + 1 < 1100 := Nat.lt_of_not_le (fun q => c15 (by rw [e11]; exact (nI_leI (a := 1100) (b := k + 1) (by decide) (by omega)).mpr q))
          refine lv_aload_n hx hb d_M_halve_18 rfl (lv_at hl 0 rfl) ?_
          refine lv_iload_n hx hb d_M_halve_19 rfl (lv_at hl 1 rfl) ?_
          refine lv_iload_n hx hb d_M_halve_20 rfl (lv_at hl 2 rfl) ?_
          refine lv_iconst (v := 1) hx hb d_M_halve_21 (by decide) ?_
          refine lv_iadd hx hb d_M_halve_22 ?_
          refine lv_topi (fun x22 ex22 => ?_)
          have e22 : x22 = nI (k + 1) := by rw [ex22]; exact nI_1 k
          rw [e22]
          refine m_calli (m_run (As := [.int (nI i), .int (nI (k + 1))]) (rest := []) hx hb hml hown hts hU (cm_get l z _ (mF g f) hi (k := k + 1) h15) (w_M_get_cw hts k_M_33 rfl rfl ⟨Nat.le_of_ble_eq_true rfl, Nat.le_of_ble_eq_true rfl⟩) (m_recv hU) rfl hl.1 rfl (lv_room (Nat.le_of_ble_eq_true rfl)) d_M_halve_23 ⟨Nat.zero_le _, Nat.zero_le _⟩) hU (fun r23 g23 H locs hp hU => ?_)
          obtain ⟨rfl, q23⟩ := hp
          have q23 : r23 = nI (wn (F (1100 * i + (k + 1)))) := by rw [q23]; exact (h1 _ (by omega)).trans (nI_wn _).symm
          refine lv_goto (tgt := 46) hx hb d_M_halve_26 (by decide) ?_
          rw [q23]
          exact E d k (wn (F (1100 * i + (k + 1)))) f _ _ ls ih hk h1 h2 hI (hokF _ (by omega)) (by rw [if_pos h15]) hU (lv_sub hl [0, 1, 2] rfl)
  refine lv_iconst (v := 0) hx hb d_M_halve_0 (by decide) ?_
  refine lv_istore_n (lv' := [(2, .int 0), (0, .ref (oM z)), (1, .int (nI i))]) hx hb d_M_halve_1 rfl hl (by decide) rfl (fun ls hl => ?_)
  exact K 1100 0 F _ _ ls (by decide) (fun _ _ => rfl) (fun q h => by omega) (by rw [if_pos (by decide)]; show 2 * 0 + wn (F (1100 * i)) % 2 = 0 + wn (F (1100 * i + 0)) % 2 * 1; rw [Nat.add_zero]; omega) (by rw [eF]; exact hU) (lv_sub hl [1, 2, 0] rfl)
end
section
/-! UnitFinderModel: multiply -/
def sm (h : Nat → Nat) : Nat → Nat
  | 0 => 0
  | n + 1 => sm h n + h n
theorem sm_s (h : Nat → Nat) (n : Nat) : sm h (n + 1) = sm h n + h n := rfl
theorem sm_congr {h h2 : Nat → Nat} : ∀ {n : Nat}, (∀ m, m < n → h m = h2 m) → sm h n = sm h2 n := by
  intro n
  induction n with
  | zero => intro _; rfl
  | succ n ih => intro q; rw [sm_s, sm_s, ih (fun m hm => q m (by omega)), q n (by omega)]
theorem sm_add (h h2 : Nat → Nat) : ∀ n, sm (fun m => h m + h2 m) n = sm h n + sm h2 n := by
  intro n
  induction n with
  | zero => rfl
  | succ n ih => rw [sm_s, sm_s, sm_s, ih]; omega
theorem sm_mul (h : Nat → Nat) (c : Nat) : ∀ n, sm (fun m => h m * c) n = sm h n * c := by
  intro n
  induction n with
  | zero => show 0 = 0 * c; rw [Nat.zero_mul]
  | succ n ih => rw [sm_s, sm_s, ih, Nat.add_mul]
theorem sm_le {h : Nat → Nat} {c : Nat} : ∀ {n : Nat}, (∀ m, m < n → h m ≤ c) → sm h n ≤ n * c := by
  intro n
  induction n with
  | zero => intro _; show 0 ≤ 0 * c; omega
  | succ n ih => intro q; have a := ih (fun m hm => q m (by omega)); have b := q n (by omega); rw [sm_s, Nat.add_mul]; omega
theorem sm_zero {h : Nat → Nat} : ∀ {n : Nat}, (∀ m, m < n → h m = 0) → sm h n = 0 := by
  intro n
  induction n with
  | zero => intro _; rfl
  | succ n ih => intro q; rw [sm_s, ih (fun m hm => q m (by omega)), q n (by omega)]
theorem sm_ext {h : Nat → Nat} {a : Nat} : ∀ {n : Nat}, a ≤ n → (∀ m, a ≤ m → m < n → h m = 0) → sm h n = sm h a := by
  intro n
  induction n with
  | zero => intro q _; rw [Nat.le_zero.mp q]
  | succ n ih =>
    intro q w
    rcases Nat.lt_or_ge n a with h1 | h1
    · rw [show a = n + 1 by omega]
    · rw [sm_s, w n h1 (by omega), Nat.add_zero]; exact ih h1 (fun m a b => w m a (by omega))
/-- the products that fall on place k -/
def cv (A C : Nat → Nat) (k : Nat) : Nat := sm (fun m => A m * C (k - m)) (k + 1)
def dg (A : Nat → Nat) (n : Nat) : Nat := sm (fun m => A m * 65536 ^ m) n
theorem cv_rows (A C : Nat → Nat) : ∀ n, sm (fun c => cv A C c * 65536 ^ c) n = sm (fun m => A m * 65536 ^ m * dg C (n - m)) n := by
  intro n
  induction n with
  | zero => rfl
  | succ n ih =>
    rw [sm_s, ih]
    have e1 : sm (fun m => A m * 65536 ^ m * dg C (n + 1 - m)) (n + 1) = sm (fun m => A m * 65536 ^ m * dg C (n - m) + A m * C (n - m) * 65536 ^ n) (n + 1) := sm_congr fun m hm => by
      rw [show n + 1 - m = (n - m) + 1 by omega, dg, sm_s, ← dg, Nat.mul_add]
      congr 1
      rw [show (65536 : Nat) ^ n = 65536 ^ m * 65536 ^ (n - m) by rw [← Nat.pow_add]; congr 1; omega]
      ac_rfl
    rw [e1, sm_add, sm_mul, sm_s (fun m => A m * 65536 ^ m * dg C (n - m)), Nat.sub_self]
    show _ = sm _ n + A n * 65536 ^ n * 0 + cv A C n * 65536 ^ n
    omega
theorem dg_split (C : Nat → Nat) (a : Nat) : ∀ b, ∃ E, dg C (a + b) = dg C a + 65536 ^ a * E := by
  intro b
  induction b with
  | zero => exact ⟨0, by rw [Nat.add_zero, Nat.mul_zero, Nat.add_zero]⟩
  | succ b ih =>
    obtain ⟨E, e⟩ := ih
    refine ⟨E + C (a + b) * 65536 ^ b, ?_⟩
    rw [← Nat.add_assoc, dg, sm_s, ← dg, e, Nat.mul_add, Nat.pow_add]
    have : C (a + b) * (65536 ^ a * 65536 ^ b) = 65536 ^ a * (C (a + b) * 65536 ^ b) := by ac_rfl
    omega
theorem rows_mod (A C : Nat → Nat) (n : Nat) : ∀ k, k ≤ n → ∃ X, dg A k * dg C n = sm (fun m => A m * 65536 ^ m * dg C (n - m)) k + 65536 ^ n * X := by
  intro k
  induction k with
  | zero => intro _; exact ⟨0, by show 0 * _ = 0 + _ * 0; omega⟩
  | succ k ih =>
    intro hk
    obtain ⟨X, e⟩ := ih (by omega)
    obtain ⟨E, e2⟩ := dg_split C (n - k) k
    rw [show n - k + k = n by omega] at e2
    refine ⟨X + A k * E, ?_⟩
    have e3 : A k * 65536 ^ k * dg C n = A k * 65536 ^ k * dg C (n - k) + 65536 ^ n * (A k * E) := by
      rw [e2, Nat.mul_add]
      congr 1
      rw [show (65536 : Nat) ^ n = 65536 ^ (n - k) * 65536 ^ k by rw [← Nat.pow_add]; congr 1; omega]
      ac_rfl
    rw [dg, sm_s, ← dg, sm_s, Nat.add_mul, e, e3, Nat.mul_add]
    omega
theorem dv_dg (f : Nat → Int32) (i : Nat) : ∀ n, dv f i n = dg (fun k => wn (f (1100 * i + k))) n := by
  intro n
  induction n with
  | zero => rfl
  | succ n ih => rw [dv_s, ih]; rfl
theorem cv_prod (f : Nat → Int32) (i j : Nat) : sm (fun c => cv (fun k => wn (f (1100 * i + k))) (fun k => wn (f (1100 * j + k))) c * 65536 ^ c) 1100 % WW = rv f i * rv f j % WW := by
  obtain ⟨X, e⟩ := rows_mod (fun k => wn (f (1100 * i + k))) (fun k => wn (f (1100 * j + k))) 1100 1100 (Nat.le_refl _)
  rw [cv_rows, rv, rv, dv_dg, dv_dg, e, ← WW_def, Nat.add_mul_mod_self_left]
theorem ms_step {V P w : Nat} {c S t s' : Nat} (h : V + c * P = S) (ht : t = c + s') (hw : w = t % 65536) : V + w * P + t / 65536 * (P * 65536) = S + s' * P := by
  have e := Nat.div_add_mod t 65536
  have e2 : w * P + t / 65536 * (P * 65536) = t * P := by
    rw [hw]
    conv => rhs; rw [← e]
    rw [Nat.add_mul, Nat.add_comm]
    congr 1
    ac_rfl
  have e3 : t * P = c * P + s' * P := by rw [ht, Nat.add_mul]
  omega
set_option maxHeartbeats 4000000 in
set_option maxRecDepth 100000 in
theorem cm_multiply (l : Launch) (z : YM) (sz : Nat) (g : SM) {to i j : Nat} (ht : to < 11) (hi : i < 11) (hj : j < 11) (hti : i ≠ to) (htj : j ≠ to) (hok : dgOk g.2.2.2.2.2) : Met l y_M_multiply (zw y_M_multiply b_M_multiply 12 none) { frames := 2, cells := 0, slots := 0, locals := 44 } (va_Pc [.ref (oM z), .int (nI to), .int (nI i), .int (nI j)] (mI z g sz)) (va_Qv (fun g2 => ∃ f, g2 = mF g f ∧ dgOk f ∧ rsm g.2.2.2.2.2 f to ∧ rv f to = rv g.2.2.2.2.2 i * rv g.2.2.2.2.2 j % WW) (mO z sz) (yA z sz)) 0 0 (yA z sz) := by
  refine m_ofW (by decide) (Nat.le_of_ble_eq_true rfl) (fun p e s m below meth c hx hb hr hml hown hts hlocks hname hsz ls hU hl => ?_)
  have hl : lv_has ls 12 [(0, .ref (oM z)), (1, .int (nI to)), (2, .int (nI i)), (3, .int (nI j))] := hl
  obtain ⟨F, eF⟩ : ∃ y, y = g.2.2.2.2.2 := ⟨_, rfl⟩
  have hokF : dgOk F := by rw [eF]; exact hok
  obtain ⟨A, eA⟩ : ∃ y : Nat → Nat, y = fun k => wn (F (1100 * i + k)) := ⟨_, rfl⟩
  obtain ⟨C, eC⟩ : ∃ y : Nat → Nat, y = fun k => wn (F (1100 * j + k)) := ⟨_, rfl⟩
  have hA : ∀ k, k < 1100 → A k ≤ 65535 := fun k hk => by rw [eA]; have := hokF (1100 * i + k) (by omega); show wn (F (1100 * i + k)) ≤ 65535; omega
  have hC : ∀ k, k < 1100 → C k ≤ 65535 := fun k hk => by rw [eC]; have := hokF (1100 * j + k) (by omega); show wn (F (1100 * j + k)) ≤ 65535; omega
  have hAC : ∀ k m, k < 1100 → m ≤ k → A m * C (k - m) ≤ 4294836225 := fun k m hk hm => Nat.mul_le_mul (hA m (by omega)) (hC (k - m) (by omega))
  have E : ∀ (d k : Nat) (f : Nat → Int32) (cr : Nat) (c4 sm9 : Int64) (m11 N1 N2 : Int32) (H : Heap) (locs : List Loc) (ls : Array Slot), (∀ (k : Nat) (f : Nat → Int32) (cr : Nat) (c4 : Int64) (H : Heap) (locs : List Loc) (ls : Array Slot), k + d = 1100 → (∀ q, (q < 1100 * to ∨ 1100 * to + k ≤ q) → f q = F q) → (∀ q, q < k → wn (f (1100 * to + q)) < 65536) → c4.toInt = (cr : Int) → cr ≤ 8796093022208 → dv f to k + cr * 65536 ^ k = sm (fun c => cv A C c * 65536 ^ c) k → Ms z (mF g f) s.heap H locs s → lv_has ls 12 [(0, .ref (oM z)), (1, .int (nI to)), (2, .int (nI i)), (3, .int (nI j)), (4, .long c4), (6, .int N1), (7, .int N2), (8, .int (nI k))] → W p l e ({ frames := 2, cells := 0, slots := 0, locals := 44 } : Room) s m ([.ref (oM z), .int (nI to), .int (nI i), .int (nI j)] : List Value).toArray below meth c H locs 0 0 (MQ below (va_Qv (fun g2 => ∃ f, g2 = mF g f ∧ dgOk f ∧ rsm g.2.2.2.2.2 f to ∧ rv f to = rv g.2.2.2.2.2 i * rv g.2.2.2.2.2 j % WW) (mO z sz) (yA z sz)) ([.ref (oM z), .int (nI to), .int (nI i), .int (nI j)] : List Value).toArray s 0 0 (yA z sz)) (F0 m 20 ls [])) → k + (d + 1) = 1100 → (∀ q, (q < 1100 * to ∨ 1100 * to + k ≤ q) → f q = F q) → (∀ q, q < k → wn (f (1100 * to + q)) < 65536) → cr ≤ 8796093022208 → dv f to k + cr * 65536 ^ k = sm (fun c => cv A C c * 65536 ^ c) k → sm9.toInt = (cr : Int) + (cv A C k : Int) → Ms z (mF g f) s.heap H locs s → lv_has ls 12 [(0, .ref (oM z)), (1, .int (nI to)), (2, .int (nI i)), (3, .int (nI j)), (4, .long c4), (6, .int N1), (7, .int N2), (8, .int (nI k)), (9, .long sm9), (11, .int m11)] → W p l e ({ frames := 2, cells := 0, slots := 0, locals := 44 } : Room) s m ([.ref (oM z), .int (nI to), .int (nI i), .int (nI j)] : List Value).toArray below meth c H locs 0 0 (MQ below (va_Qv (fun g2 => ∃ f, g2 = mF g f ∧ dgOk f ∧ rsm g.2.2.2.2.2 f to ∧ rv f to = rv g.2.2.2.2.2 i * rv g.2.2.2.2.2 j % WW) (mO z sz) (yA z sz)) ([.ref (oM z), .int (nI to), .int (nI i), .int (nI j)] : List Value).toArray s 0 0 (yA z sz)) (F0 m 97 ls []) := by
    intro d k f cr c4 sm9 m11 N1 N2 H locs ls ih hk h1 h2 hc hI hs hU hl
    have hcv : cv A C k ≤ (k + 1) * 4294836225 := sm_le (fun m hm => hAC k m (by omega) (by omega))
    refine lv_aload_n hx hb d_M_multiply_97 rfl (lv_at hl 0 rfl) ?_
    refine lv_iload_n hx hb d_M_multiply_98 rfl (lv_at hl 1 rfl) ?_
    refine lv_iload hx hb d_M_multiply_99 (lv_at hl 7 rfl) ?_
    refine lv_lload hx hb d_M_multiply_101 (lv_at hl 8 rfl) ?_
    refine lv_ldc2 (v := 65535) hx hb hown (hts _ k_M_27) d_M_multiply_103 ?_
    refine lv_land hx hb d_M_multiply_106 ?_
    refine lv_topl (fun x106 ex106 => ?_)
    refine lv_l2i hx hb d_M_multiply_107 rfl ?_
    refine lv_topi (fun x107 ex107 => ?_)
    refine m_callv (m_run (As := [.int (nI to), .int (nI k), .int x107]) (rest := []) hx hb hml hown hts hU (cm_put l z _ (mF g f) ht (k := k) (by omega) x107) (w_M_put_cw hts k_M_29 rfl rfl ⟨Nat.le_of_ble_eq_true rfl, Nat.le_of_ble_eq_true rfl⟩) (m_recv hU) rfl hl.1 rfl (lv_room (Nat.le_of_ble_eq_true rfl)) d_M_multiply_108 ⟨Nat.zero_le _, Nat.zero_le _⟩) hU (fun g108 H locs hp hU => ?_)
    subst hp
    refine lv_lload hx hb d_M_multiply_111 (lv_at hl 8 rfl) ?_
    refine lv_bipush (v := 16) hx hb d_M_multiply_113 (by decide) ?_
    refine lv_lshr hx hb d_M_multiply_115 rfl ?_
    refine lv_topl (fun x115 ex115 => ?_)
    refine lv_lstore (lv' := [(4, .long x115), (0, .ref (oM z)), (1, .int (nI to)), (2, .int (nI i)), (3, .int (nI j)), (6, .int N1), (7, .int N2), (8, .int (nI k)), (9, .long sm9), (11, .int m11)]) hx hb d_M_multiply_116 hl (by decide) rfl (fun ls hl => ?_)
    obtain ⟨x118, ex118⟩ : ∃ y : Int32, y = (nI k) + Int32.ofInt 1 := ⟨_, rfl⟩
    refine lv_iinc (v := x118) (lv' := [(8, .int x118), (4, .long x115), (0, .ref (oM z)), (1, .int (nI to)), (2, .int (nI i)), (3, .int (nI j)), (6, .int N1), (7, .int N2), (9, .long sm9), (11, .int m11)]) hx hb d_M_multiply_118 hl (k := 7) rfl (by rw [ex118]) (by decide) rfl (fun ls hl => ?_)
    refine lv_goto (tgt := 20) hx hb d_M_multiply_121 (by decide) ?_
    have t107 : (wn x107 : Int) = sm9.toInt % 65536 := by rw [ex107, ex106]; exact wn_and16 sm9
    have t115 : x115.toInt = sm9.toInt / 65536 := by rw [ex115]; exact Jvm.Kit.i64_shr sm9 _ (k := 16) (by decide)
    rw [ex118, show Int32.ofInt 1 = 1 from rfl, nI_1] at hl
    exact ih (k + 1) (upd f (1100 * to + k) x107) ((cr + cv A C k) / 65536) x115 _ _ ls (by omega) (fun q hq => by rw [pk_un (by omega)]; exact h1 q (by omega)) (fun q hq => by
      by_cases h : q = k
      · rw [h, pk_us]; omega
      · rw [pk_un (by omega)]; exact h2 q (by omega)) (by rw [t115, hs]; omega) (by omega) (by
      rw [dv_s, pk_us, dv_congr (f := upd f (1100 * to + k) x107) (g := f) (j := to) (fun q hq => pk_un (by omega)), Nat.pow_succ, sm_s]
      exact ms_step hI rfl (by rw [hs] at t107; omega)) hU (lv_sub hl [2, 3, 4, 5, 1, 6, 7, 0] rfl)
  have K : ∀ (many other : Nat) (d k : Nat) (f : Nat → Int32) (cr : Nat) (c4 : Int64) (H : Heap) (locs : List Loc) (ls : Array Slot), many ≤ 1100 → other ≤ 1100 → (∀ m, many ≤ m → m < 1100 → A m = 0) → (∀ m, other ≤ m → m < 1100 → C m = 0) → k + d = 1100 → (∀ q, (q < 1100 * to ∨ 1100 * to + k ≤ q) → f q = F q) → (∀ q, q < k → wn (f (1100 * to + q)) < 65536) → c4.toInt = (cr : Int) → cr ≤ 8796093022208 → dv f to k + cr * 65536 ^ k = sm (fun c => cv A C c * 65536 ^ c) k → Ms z (mF g f) s.heap H locs s → lv_has ls 12 [(0, .ref (oM z)), (1, .int (nI to)), (2, .int (nI i)), (3, .int (nI j)), (4, .long c4), (6, .int (nI many)), (7, .int (nI other)), (8, .int (nI k))] → W p l e ({ frames := 2, cells := 0, slots := 0, locals := 44 } : Room) s m ([.ref (oM z), .int (nI to), .int (nI i), .int (nI j)] : List Value).toArray below meth c H locs 0 0 (MQ below (va_Qv (fun g2 => ∃ f, g2 = mF g f ∧ dgOk f ∧ rsm g.2.2.2.2.2 f to ∧ rv f to = rv g.2.2.2.2.2 i * rv g.2.2.2.2.2 j % WW) (mO z sz) (yA z sz)) ([.ref (oM z), .int (nI to), .int (nI i), .int (nI j)] : List Value).toArray s 0 0 (yA z sz)) (F0 m 20 ls []) := by
    intro many other d
    induction d with
    | zero =>
      intro k f cr c4 H locs ls hm ho hmz hoz hk h1 h2 hc4 hc hI hU hl
      have hk : k = 1100 := by omega
      subst hk
      refine lv_iload hx hb d_M_multiply_20 (lv_at hl 7 rfl) ?_
      refine lv_sipush (v := 1100) hx hb d_M_multiply_22 (by decide) ?_
      refine lv_icmp_ge (tgt := 124) hx hb d_M_multiply_25 (by decide) (fun c25 => ?_) (fun c25 => ?_)
      · have hokf : dgOk f := fun q hq => by
          by_cases h : q < 1100 * to ∨ 1100 * to + 1100 ≤ q
          · rw [h1 q h]; exact hokF q hq
          · obtain ⟨w, rfl⟩ : ∃ w, q = 1100 * to + w := ⟨q - 1100 * to, by omega⟩
            exact h2 w (by omega)
        have hI : rv f to + cr * WW = sm (fun c => cv A C c * 65536 ^ c) 1100 := by rw [WW_def]; exact hI
        have h3 := rv_lt ht hokf
        subst eA eC
        have h5 := cv_prod F i j
        rw [← hI, Nat.add_mul_mod_self_right, Nat.mod_eq_of_lt h3] at h5
        exact m_vret hx hb hr hlocks hsz hU ⟨f, rfl, hokf, by rw [← eF]; exact h1, by rw [← eF]; exact h5⟩ d_M_multiply_124
      · exact absurd (Int32.le_refl _) c25
    | succ d ih =>
      intro k f cr c4 H locs ls hm ho hmz hoz hk h1 h2 hc4 hc hI hU hl
      have L : ∀ (r u : Nat) (s9 : Int64) (H : Heap) (locs : List Loc) (ls : Array Slot), u + r = k + 1 → s9.toInt = (cr : Int) + (sm (fun m => A m * C (k - m)) u : Int) → Ms z (mF g f) s.heap H locs s → lv_has ls 12 [(0, .ref (oM z)), (1, .int (nI to)), (2, .int (nI i)), (3, .int (nI j)), (4, .long c4), (6, .int (nI many)), (7, .int (nI other)), (8, .int (nI k)), (9, .long s9), (11, .int (nI u))] → (u = k + 1 ∨ k < u + other) → W p l e ({ frames := 2, cells := 0, slots := 0, locals := 44 } : Room) s m ([.ref (oM z), .int (nI to), .int (nI i), .int (nI j)] : List Value).toArray below meth c H locs 0 0 (MQ below (va_Qv (fun g2 => ∃ f, g2 = mF g f ∧ dgOk f ∧ rsm g.2.2.2.2.2 f to ∧ rv f to = rv g.2.2.2.2.2 i * rv g.2.2.2.2.2 j % WW) (mO z sz) (yA z sz)) ([.ref (oM z), .int (nI to), .int (nI i), .int (nI j)] : List Value).toArray s 0 0 (yA z sz)) (F0 m 52 ls []) := by
        intro r
        induction r with
        | zero =>
          intro u s9 H locs ls hu hs hU hl hlo
          have hu : u = k + 1 := by omega
          subst hu
          refine lv_iload hx hb d_M_multiply_52 (lv_at hl 9 rfl) ?_
          refine lv_iload hx hb d_M_multiply_54 (lv_at hl 7 rfl) ?_
          refine lv_icmp_gt (tgt := 97) hx hb d_M_multiply_56 (by decide) (fun c56 => ?_) (fun c56 => ?_)
          · exact E d k f cr c4 s9 _ _ _ _ _ ls (fun k f cr c4 H locs ls a1 a2 a3 a4 a5 a6 a7 a8 => ih k f cr c4 H locs ls hm ho hmz hoz a1 a2 a3 a4 a5 a6 a7 a8) hk h1 h2 hc hI hs hU hl
          · exact absurd (nI_lt (a := k) (b := k + 1) (by omega) (by omega)) c56
        | succ r ihr =>
          intro u s9 H locs ls hu hs hU hl hlo
          refine lv_iload hx hb d_M_multiply_52 (lv_at hl 9 rfl) ?_
          refine lv_iload hx hb d_M_multiply_54 (lv_at hl 7 rfl) ?_
          refine lv_icmp_gt (tgt := 97) hx hb d_M_multiply_56 (by decide) (fun c56 => ?_) (fun c56 => ?_)
          · exact absurd c56 (nI_nlt (by omega) (by omega))
          · refine lv_iload hx hb d_M_multiply_59 (lv_at hl 9 rfl) ?_
            refine lv_iload hx hb d_M_multiply_61 (lv_at hl 5 rfl) ?_
            refine lv_icmp_ge (tgt := 97) hx hb d_M_multiply_63 (by decide) (fun c63 => ?_) (fun c63 => ?_)
            · have h63 : many ≤ u := (nI_leI (by omega) (by omega)).mp c63
              have hE : sm (fun m => A m * C (k - m)) (k + 1) = sm (fun m => A m * C (k - m)) u := sm_ext (by omega) (fun m q1 q2 => by
                show A m * C (k - m) = 0
                rw [hmz m (by omega) (by omega), Nat.zero_mul])
              exact E d k f cr c4 s9 _ _ _ _ _ ls (fun k f cr c4 H locs ls a1 a2 a3 a4 a5 a6 a7 a8 => ih k f cr c4 H locs ls hm ho hmz hoz a1 a2 a3 a4 a5 a6 a7 a8) hk h1 h2 hc hI (by rw [hs, cv, hE]) hU hl
            · refine lv_lload hx hb d_M_multiply_66 (lv_at hl 8 rfl) ?_
              refine lv_aload_n hx hb d_M_multiply_68 rfl (lv_at hl 0 rfl) ?_
              refine lv_iload_n hx hb d_M_multiply_69 rfl (lv_at hl 2 rfl) ?_
              refine lv_iload hx hb d_M_multiply_70 (lv_at hl 9 rfl) ?_
              refine m_calli (m_run (As := [.int (nI i), .int (nI u)]) (rest := [.long s9]) hx hb hml hown hts hU (cm_get l z _ (mF g f) hi (k := u) (by omega)) (w_M_get_cw hts k_M_33 rfl rfl ⟨Nat.le_of_ble_eq_true rfl, Nat.le_of_ble_eq_true rfl⟩) (m_recv hU) rfl hl.1 rfl (lv_room (Nat.le_of_ble_eq_true rfl)) d_M_multiply_72 ⟨Nat.zero_le _, Nat.zero_le _⟩) hU (fun r72 g72 H locs hp hU => ?_)
              obtain ⟨rfl, q72⟩ := hp
              have q72 : r72 = F (1100 * i + u) := by rw [q72]; exact h1 _ (by omega)
              refine lv_i2l hx hb d_M_multiply_75 rfl ?_
              refine lv_topl (fun x75 ex75 => ?_)
              refine lv_aload_n hx hb d_M_multiply_76 rfl (lv_at hl 0 rfl) ?_
              refine lv_iload_n hx hb d_M_multiply_77 rfl (lv_at hl 3 rfl) ?_
              refine lv_iload hx hb d_M_multiply_78 (lv_at hl 7 rfl) ?_
              refine lv_iload hx hb d_M_multiply_80 (lv_at hl 9 rfl) ?_
              refine lv_isub hx hb d_M_multiply_82 ?_
              refine lv_topi (fun x82 ex82 => ?_)
              have e82 : x82 = nI (k - u) := by rw [ex82]; exact pk_sub (by omega)
              rw [e82]
              refine m_calli (m_run (As := [.int (nI j), .int (nI (k - u))]) (rest := [.long x75, .long s9]) hx hb hml hown hts hU (cm_get l z _ (mF g f) hj (k := k - u) (by omega)) (w_M_get_cw hts k_M_33 rfl rfl ⟨Nat.le_of_ble_eq_true rfl, Nat.le_of_ble_eq_true rfl⟩) (m_recv hU) rfl hl.1 rfl (lv_room (Nat.le_of_ble_eq_true rfl)) d_M_multiply_83 ⟨Nat.zero_le _, Nat.zero_le _⟩) hU (fun r83 g83 H locs hp hU => ?_)
              obtain ⟨rfl, q83⟩ := hp
              have q83 : r83 = F (1100 * j + (k - u)) := by rw [q83]; exact h1 _ (by omega)
              refine lv_i2l hx hb d_M_multiply_86 rfl ?_
              refine lv_topl (fun x86 ex86 => ?_)
              refine lv_lmul hx hb d_M_multiply_87 ?_
              refine lv_topl (fun x87 ex87 => ?_)
              refine lv_ladd hx hb d_M_multiply_88 ?_
              refine lv_topl (fun x88 ex88 => ?_)
              refine lv_lstore (lv' := [(9, .long x88), (0, .ref (oM z)), (1, .int (nI to)), (2, .int (nI i)), (3, .int (nI j)), (4, .long c4), (6, .int (nI many)), (7, .int (nI other)), (8, .int (nI k)), (11, .int (nI u))]) hx hb d_M_multiply_89 hl (by decide) rfl (fun ls hl => ?_)
              obtain ⟨x91, ex91⟩ : ∃ y : Int32, y = (nI u) + Int32.ofInt 1 := ⟨_, rfl⟩
              refine lv_iinc (v := x91) (lv' := [(11, .int x91), (9, .long x88), (0, .ref (oM z)), (1, .int (nI to)), (2, .int (nI i)), (3, .int (nI j)), (4, .long c4), (6, .int (nI many)), (7, .int (nI other)), (8, .int (nI k))]) hx hb d_M_multiply_91 hl (k := 9) rfl (by rw [ex91]) (by decide) rfl (fun ls hl => ?_)
              refine lv_goto (tgt := 52) hx hb d_M_multiply_94 (by decide) ?_
              have w1 := hokF (1100 * i + u) (by omega)
              have w2 := hokF (1100 * j + (k - u)) (by omega)
              have a1 : wn (F (1100 * i + u)) = A u := by rw [eA]
              have a2 : wn (F (1100 * j + (k - u))) = C (k - u) := by rw [eC]
              have t75 : x75.toInt = (A u : Int) := by rw [ex75, Jvm.Kit.i64_of_i32, q72, dg_int w1, a1]
              have t86 : x86.toInt = (C (k - u) : Int) := by rw [ex86, Jvm.Kit.i64_of_i32, q83, dg_int w2, a2]
              have hb1 := hAC k u (by omega) (by omega)
              have hb2 : sm (fun m => A m * C (k - m)) u ≤ u * 4294836225 := sm_le (fun m hm => hAC k m (by omega) (by omega))
              have t87 : x87.toInt = ((A u * C (k - u) : Nat) : Int) := by rw [ex87, Jvm.Kit.i64_mul] <;> rw [t75, t86, ← Int.natCast_mul] <;> omega
              have t88 : x88.toInt = (cr : Int) + (sm (fun m => A m * C (k - m)) (u + 1) : Int) := by
                rw [sm_s, Int.natCast_add]
                show x88.toInt = (cr : Int) + ((sm (fun m => A m * C (k - m)) u : Int) + ((A u * C (k - u) : Nat) : Int))
                rw [ex88, Jvm.Kit.i64_add] <;> rw [hs, t87] <;> omega
              rw [ex91, show Int32.ofInt 1 = 1 from rfl, nI_1] at hl
              exact ihr (u + 1) x88 _ _ ls (by omega) t88 hU (lv_sub hl [2, 3, 4, 5, 6, 7, 8, 9, 1, 0] rfl) (by omega)
      refine lv_iload hx hb d_M_multiply_20 (lv_at hl 7 rfl) ?_
      refine lv_sipush (v := 1100) hx hb d_M_multiply_22 (by decide) ?_
      refine lv_icmp_ge (tgt := 124) hx hb d_M_multiply_25 (by decide) (fun c25 => ?_) (fun c25 => ?_)
      · exact absurd c25 (nI_ge (a := k) (b := 1100) (by omega) (by decide))
      · refine lv_lload hx hb d_M_multiply_28 (lv_at hl 4 rfl) ?_
        refine lv_lstore (lv' := [(9, .long c4), (0, .ref (oM z)), (1, .int (nI to)), (2, .int (nI i)), (3, .int (nI j)), (4, .long c4), (6, .int (nI many)), (7, .int (nI other)), (8, .int (nI k))]) hx hb d_M_multiply_30 hl (by decide) rfl (fun ls hl => ?_)
        refine lv_iload hx hb d_M_multiply_32 (lv_at hl 8 rfl) ?_
        refine lv_iload hx hb d_M_multiply_34 (lv_at hl 7 rfl) ?_
        refine lv_icmp_ge (tgt := 43) hx hb d_M_multiply_36 (by decide) (fun c36 => ?_) (fun c36 => ?_)
        · have h36 : other ≤ k := (nI_leI (by omega) (by omega)).mp c36
          refine lv_iload hx hb d_M_multiply_43 (lv_at hl 8 rfl) ?_
          refine lv_iload hx hb d_M_multiply_45 (lv_at hl 7 rfl) ?_
          refine lv_isub hx hb d_M_multiply_47 ?_
          refine lv_topi (fun x47 ex47 => ?_)
          refine lv_iconst (v := 1) hx hb d_M_multiply_48 (by decide) ?_
          refine lv_iadd hx hb d_M_multiply_49 ?_
          refine lv_topi (fun x49 ex49 => ?_)
          have e49 : x49 = nI (k - other + 1) := by rw [ex49, ex47, pk_sub h36]; exact nI_1 _
          rw [e49]
          refine lv_istore (lv' := [(11, .int (nI (k - other + 1))), (9, .long c4), (0, .ref (oM z)), (1, .int (nI to)), (2, .int (nI i)), (3, .int (nI j)), (4, .long c4), (6, .int (nI many)), (7, .int (nI other)), (8, .int (nI k))]) hx hb d_M_multiply_50 hl (by decide) rfl (fun ls hl => ?_)
          exact L (other) (k - other + 1) c4 _ _ ls (by omega) (by rw [hc4, sm_zero (fun m hm => by show A m * C (k - m) = 0; rw [hoz (k - m) (by omega) (by omega), Nat.mul_zero])]; omega) hU (lv_sub hl [2, 3, 4, 5, 6, 7, 8, 9, 1, 0] rfl) (by omega)
        · have h36 : k < other := Nat.lt_of_not_le (fun q => c36 ((nI_leI (by omega) (by omega)).mpr q))
          refine lv_iconst (v := 0) hx hb d_M_multiply_39 (by decide) ?_
          refine lv_goto (tgt := 50) hx hb d_M_multiply_40 (by decide) ?_
          refine lv_istore (lv' := [(11, .int 0), (9, .long c4), (0, .ref (oM z)), (1, .int (nI to)), (2, .int (nI i)), (3, .int (nI j)), (4, .long c4), (6, .int (nI many)), (7, .int (nI other)), (8, .int (nI k))]) hx hb d_M_multiply_50 hl (by decide) rfl (fun ls hl => ?_)
          exact L (k + 1) 0 c4 _ _ ls (by omega) (by rw [hc4]; show (cr : Int) = (cr : Int) + 0; omega) hU (lv_sub hl [2, 3, 4, 5, 6, 7, 8, 9, 1, 0] rfl) (by omega)
  refine lv_lconst (v := 0) hx hb d_M_multiply_0 (by decide) ?_
  refine lv_lstore (lv' := [(4, .long 0), (0, .ref (oM z)), (1, .int (nI to)), (2, .int (nI i)), (3, .int (nI j))]) hx hb d_M_multiply_1 hl (by decide) rfl (fun ls hl => ?_)
  refine lv_aload_n hx hb d_M_multiply_3 rfl (lv_at hl 1 rfl) ?_
  refine lv_iload_n hx hb d_M_multiply_4 rfl (lv_at hl 3 rfl) ?_
  refine m_calli (m_run (As := [.int (nI i)]) (rest := []) hx hb hml hown hts hU (cm_length l z _ g hi) (w_M_length_cw hts k_M_37 rfl rfl ⟨Nat.le_of_ble_eq_true rfl, Nat.le_of_ble_eq_true rfl⟩) (m_recv hU) rfl hl.1 rfl (lv_room (Nat.le_of_ble_eq_true rfl)) d_M_multiply_5 ⟨Nat.zero_le _, Nat.zero_le _⟩) hU (fun r5 g5 H locs hp hU => ?_)
  obtain ⟨q5, many, hm, e5, hmz, -⟩ := hp
  rw [q5] at hU
  rw [e5]
  refine lv_istore (lv' := [(6, .int (nI many)), (4, .long 0), (0, .ref (oM z)), (1, .int (nI to)), (2, .int (nI i)), (3, .int (nI j))]) hx hb d_M_multiply_8 hl (by decide) rfl (fun ls hl => ?_)
  refine lv_aload_n hx hb d_M_multiply_10 rfl (lv_at hl 2 rfl) ?_
  refine lv_iload_n hx hb d_M_multiply_11 rfl (lv_at hl 5 rfl) ?_
  refine m_calli (m_run (As := [.int (nI j)]) (rest := []) hx hb hml hown hts hU (cm_length l z _ g hj) (w_M_length_cw hts k_M_37 rfl rfl ⟨Nat.le_of_ble_eq_true rfl, Nat.le_of_ble_eq_true rfl⟩) (m_recv hU) rfl hl.1 rfl (lv_room (Nat.le_of_ble_eq_true rfl)) d_M_multiply_12 ⟨Nat.zero_le _, Nat.zero_le _⟩) hU (fun r12 g12 H locs hp hU => ?_)
  obtain ⟨q12, other, ho, e12, hoz, -⟩ := hp
  rw [q12] at hU
  rw [e12]
  refine lv_istore (lv' := [(7, .int (nI other)), (6, .int (nI many)), (4, .long 0), (0, .ref (oM z)), (1, .int (nI to)), (2, .int (nI i)), (3, .int (nI j))]) hx hb d_M_multiply_15 hl (by decide) rfl (fun ls hl => ?_)
  refine lv_iconst (v := 0) hx hb d_M_multiply_17 (by decide) ?_
  refine lv_istore (lv' := [(8, .int 0), (7, .int (nI other)), (6, .int (nI many)), (4, .long 0), (0, .ref (oM z)), (1, .int (nI to)), (2, .int (nI i)), (3, .int (nI j))]) hx hb d_M_multiply_18 hl (by decide) rfl (fun ls hl => ?_)
  exact K many other 1100 0 F 0 0 _ _ ls hm ho (fun m h1 h2 => by rw [eA]; show wn (F (1100 * i + m)) = 0; rw [eF, hmz m h1 h2]; rfl) (fun m h1 h2 => by rw [eC]; show wn (F (1100 * j + m)) = 0; rw [eF, hoz m h1 h2]; rfl) (by decide) (fun _ _ => rfl) (fun q h => by omega) rfl (by decide) rfl (by rw [eF]; exact hU) (lv_sub hl [4, 5, 6, 7, 3, 2, 1, 0] rfl)
end
section
/-! UnitFinderModel: its static methods; sizes -/
set_option maxHeartbeats 4000000 in
set_option maxRecDepth 100000 in
theorem cm_in (l : Launch) (v lo hi : Int64) : Met l y_M_in (zw y_M_in b_M_in 6 (some .boolean)) { frames := 0, cells := 0, slots := 0, locals := 0 } (va_Pc [.long v, .long lo, .long hi] (fun _ => True)) (prQ (.int (if lo.toInt ≤ v.toInt ∧ v.toInt ≤ hi.toInt then 1 else 0))) 0 0 (fun _ => False) := by
  refine pr_ofW (by decide) (Nat.le_of_ble_eq_true rfl) (fun p e s m below meth c hx hb hr hml hown hts hlocks ls hl => ?_)
  have hl : lv_has ls 6 [(0, .long v), (2, .long lo), (4, .long hi)] := hl
  have h01 : ((if lo.toInt ≤ v.toInt ∧ v.toInt ≤ hi.toInt then 1 else 0 : Int32) = 0 ∨ (if lo.toInt ≤ v.toInt ∧ v.toInt ≤ hi.toInt then 1 else 0 : Int32) = 1) := by split; exact Or.inr rfl; exact Or.inl rfl
  refine lv_lload_n hx hb d_M_in_0 rfl (lv_at hl 0 rfl) ?_
  refine lv_lload_n hx hb d_M_in_1 rfl (lv_at hl 1 rfl) ?_
  refine W.lcmp hx hb d_M_in_2 ?_
  refine lv_if_lt (tgt := 17) hx hb d_M_in_3 (by decide) (fun c3 => ?_) (fun c3 => ?_)
  · have h3 : v.toInt < lo.toInt := Int64.lt_iff_toInt_lt.mp ((lg_cmp_lt _ _).mp c3)
    refine lv_iconst (v := 0) hx hb d_M_in_17 (by decide) ?_
    exact pr_zret hx hb hr hlocks h01 (by rw [if_neg]; omega) d_M_in_18
  · have h3 : ¬ v.toInt < lo.toInt := fun q => c3 ((lg_cmp_lt _ _).mpr (Int64.lt_iff_toInt_lt.mpr q))
    refine lv_lload_n hx hb d_M_in_6 rfl (lv_at hl 0 rfl) ?_
    refine lv_lload hx hb d_M_in_7 (lv_at hl 2 rfl) ?_
    refine W.lcmp hx hb d_M_in_9 ?_
    refine lv_if_gt (tgt := 17) hx hb d_M_in_10 (by decide) (fun c10 => ?_) (fun c10 => ?_)
    · have h9 : hi.toInt < v.toInt := Int64.lt_iff_toInt_lt.mp ((lg_cmp_gt _ _).mp c10)
      refine lv_iconst (v := 0) hx hb d_M_in_17 (by decide) ?_
      exact pr_zret hx hb hr hlocks h01 (by rw [if_neg]; omega) d_M_in_18
    · have h9 : ¬ hi.toInt < v.toInt := fun q => c10 ((lg_cmp_gt _ _).mpr (Int64.lt_iff_toInt_lt.mpr q))
      refine lv_iconst (v := 1) hx hb d_M_in_13 (by decide) ?_
      refine lv_goto (tgt := 18) hx hb d_M_in_14 (by decide) ?_
      exact pr_zret hx hb hr hlocks h01 (by rw [if_pos]; omega) d_M_in_18
  /-- the whole root, counted up -/
  def sqL (V : Nat) : Nat → Nat → Nat
    | 0, r => r
    | f + 1, r => if (r + 1) * (r + 1) ≤ V then sqL V f (r + 1) else r
  def sqr (V : Nat) : Nat := sqL V 46341 0
  theorem sqL_spec {V : Nat} (hV : V < 2147483648) : ∀ f r, r * r ≤ V → r + f = 46341 → sqL V f r * sqL V f r ≤ V ∧ V < (sqL V f r + 1) * (sqL V f r + 1) := by
    intro f
    induction f with
    | zero => intro r h1 h2; rw [show r = 46341 by omega] at h1; omega
    | succ f ih =>
      intro r h1 h2
      rw [sqL]
      split
      · rename_i h; exact ih (r + 1) h (by omega)
      · rename_i h; exact ⟨h1, by omega⟩
  theorem sqr_spec {V : Nat} (hV : V < 2147483648) : sqr V * sqr V ≤ V ∧ V < (sqr V + 1) * (sqr V + 1) := sqL_spec hV 46341 0 (Nat.zero_le _) rfl
  theorem sq_uniq {V a b : Nat} (h1 : a * a ≤ V) (h2 : V < (a + 1) * (a + 1)) (h3 : b * b ≤ V) (h4 : V < (b + 1) * (b + 1)) : a = b := by
    rcases Nat.lt_trichotomy a b with h | h | h
    · have := Nat.mul_le_mul (show a + 1 ≤ b from h) (show a + 1 ≤ b from h); omega
    · exact h
    · have := Nat.mul_le_mul (show b + 1 ≤ a from h) (show b + 1 ≤ a from h); omega
set_option maxHeartbeats 4000000 in
set_option maxRecDepth 100000 in
theorem cm_wholeRoot (l : Launch) {V : Nat} (hV : V < 2147483648) : Met l y_M_wholeRoot (zw y_M_wholeRoot b_M_wholeRoot 4 (some .long)) { frames := 0, cells := 0, slots := 0, locals := 0 } (va_Pc [.long (lN V)] (fun _ => True)) (prQ (.long (lN (sqr V)))) 0 0 (fun _ => False) := by
  refine pr_ofW (by decide) (Nat.le_of_ble_eq_true rfl) (fun p e s m below meth c hx hb hr hml hown hts hlocks ls hl => ?_)
  have hl : lv_has ls 4 [(0, .long (lN V))] := hl
  have K : ∀ (f r : Nat) (ls : Array Slot), r * r ≤ V → r + f = 46341 → sqL V f r = sqr V → lv_has ls 4 [(0, .long (lN V)), (2, .long (lN r))] → W p l e ({ frames := 0, cells := 0, slots := 0, locals := 0 } : Room) s m ([.long (lN V)] : List Value).toArray below meth c s.heap [] 0 0 (MQ below (prQ (.long (lN (sqr V)))) ([.long (lN V)] : List Value).toArray s 0 0 (fun _ => False)) (F0 m 2 ls []) := by
    intro f
    induction f with
    | zero =>
      intro r ls h1 h2 h3 hl
      rw [show r = 46341 by omega] at h1
      omega
    | succ f ih =>
      intro r ls h1 h2 h3 hl
      have hb9 : (r + 1) * (r + 1) ≤ 46341 * 46341 := Nat.mul_le_mul (by omega) (by omega)
      refine lv_lload_n hx hb d_M_wholeRoot_2 rfl (lv_at hl 1 rfl) ?_
      refine lv_lconst (v := 1) hx hb d_M_wholeRoot_3 (by decide) ?_
      refine lv_ladd hx hb d_M_wholeRoot_4 ?_
      refine lv_topl (fun x4 ex4 => ?_)
      refine lv_lload_n hx hb d_M_wholeRoot_5 rfl (lv_at hl 1 rfl) ?_
      refine lv_lconst (v := 1) hx hb d_M_wholeRoot_6 (by decide) ?_
      refine lv_ladd hx hb d_M_wholeRoot_7 ?_
      refine lv_topl (fun x7 ex7 => ?_)
      refine lv_lmul hx hb d_M_wholeRoot_8 ?_
      refine lv_topl (fun x8 ex8 => ?_)
      refine lv_lload_n hx hb d_M_wholeRoot_9 rfl (lv_at hl 0 rfl) ?_
      refine W.lcmp hx hb d_M_wholeRoot_10 ?_
      have e8 : x8 = lN ((r + 1) * (r + 1)) := by rw [ex8, ex4, ex7, lN_1, lN_mul]
      refine lv_if_gt (tgt := 21) hx hb d_M_wholeRoot_11 (by decide) (fun c11 => ?_) (fun c11 => ?_)
      · have h11 : ¬ (r + 1) * (r + 1) ≤ V := by
          have q := (lg_cmp_gt _ _).mp c11
          rw [e8, pk_lLT (by omega) (by omega)] at q
          omega
        rw [sqL, if_neg h11] at h3
        refine lv_lload_n hx hb d_M_wholeRoot_21 rfl (lv_at hl 1 rfl) ?_
        exact pr_lret hx hb hr hlocks (congrArg lN h3) d_M_wholeRoot_22
      · have h11 : (r + 1) * (r + 1) ≤ V := by
          have q : ¬ lN V < x8 := fun q => c11 ((lg_cmp_gt _ _).mpr q)
          rw [e8, pk_lLT (by omega) (by omega)] at q
          omega
        rw [sqL, if_pos h11] at h3
        refine lv_lload_n hx hb d_M_wholeRoot_14 rfl (lv_at hl 1 rfl) ?_
        refine lv_lconst (v := 1) hx hb d_M_wholeRoot_15 (by decide) ?_
        refine lv_ladd hx hb d_M_wholeRoot_16 ?_
        refine lv_topl (fun x16 ex16 => ?_)
        refine lv_lstore_n (lv' := [(2, .long x16), (0, .long (lN V))]) hx hb d_M_wholeRoot_17 rfl hl (by decide) rfl (fun ls hl => ?_)
        refine lv_goto (tgt := 2) hx hb d_M_wholeRoot_18 (by decide) ?_
        rw [ex16, lN_1] at hl
        exact ih (r + 1) ls h11 (by omega) h3 (lv_sub hl [1, 0] rfl)
  refine lv_lconst (v := 0) hx hb d_M_wholeRoot_0 (by decide) ?_
  refine lv_lstore_n (lv' := [(2, .long 0), (0, .long (lN V))]) hx hb d_M_wholeRoot_1 rfl hl (by decide) rfl (fun ls hl => ?_)
  exact K 46341 0 ls (Nat.zero_le _) rfl rfl (lv_sub hl [1, 0] rfl)
set_option maxHeartbeats 4000000 in
set_option maxRecDepth 100000 in
theorem cm_common (l : Launch) {x y : Int64} (hx1 : x.toInt.natAbs ≤ 2147483648) (hy1 : y.toInt.natAbs ≤ 2147483648) : Met l y_M_common (zw y_M_common b_M_common 10 (some .long)) { frames := 0, cells := 0, slots := 0, locals := 0 } (va_Pc [.long x, .long y] (fun _ => True)) (prQ (.long (lN (Nat.gcd x.toInt.natAbs y.toInt.natAbs)))) 0 0 (fun _ => False) := by
  refine pr_ofW (by decide) (Nat.le_of_ble_eq_true rfl) (fun p e s m below meth c hx hb hr hml hown hts hlocks ls hl => ?_)
  have hl : lv_has ls 10 [(0, .long x), (2, .long y)] := hl
  have K : ∀ (b a : Nat) (ls : Array Slot), a ≤ 2147483648 → b ≤ 2147483648 → Nat.gcd a b = Nat.gcd x.toInt.natAbs y.toInt.natAbs → lv_has ls 10 [(0, .long x), (2, .long y), (4, .long (lN a)), (6, .long (lN b))] → W p l e ({ frames := 0, cells := 0, slots := 0, locals := 0 } : Room) s m ([.long x, .long y] : List Value).toArray below meth c s.heap [] 0 0 (MQ below (prQ (.long (lN (Nat.gcd x.toInt.natAbs y.toInt.natAbs)))) ([.long x, .long y] : List Value).toArray s 0 0 (fun _ => False)) (F0 m 28 ls []) := by
    intro b
    induction b using Nat.strongRecOn with
    | _ b ih =>
      intro a ls ha hb1 hg hl
      refine lv_lload hx hb d_M_common_28 (lv_at hl 3 rfl) ?_
      refine lv_lconst (v := 0) hx hb d_M_common_30 (by decide) ?_
      refine W.lcmp hx hb d_M_common_31 ?_
      refine lv_if_le (tgt := 53) hx hb d_M_common_32 (by decide) (fun c32 => ?_) (fun c32 => ?_)
      · have h32 : b = 0 := by
          have q := (lg_cmp_le _ _).mp c32
          rw [show (0 : Int64) = lN 0 from rfl, pk_lLE (by omega) (by decide)] at q
          omega
        refine lv_lload hx hb d_M_common_53 (lv_at hl 2 rfl) ?_
        exact pr_lret hx hb hr hlocks (by rw [← hg, h32, Nat.gcd_zero_right]) d_M_common_55
      · have h32 : 0 < b := by
          have q : ¬ lN b ≤ 0 := fun q => c32 ((lg_cmp_le _ _).mpr q)
          rw [show (0 : Int64) = lN 0 from rfl, pk_lLE (by omega) (by decide)] at q
          omega
        have hne39 : ¬ lN b = 0 := fun q => by
          rw [show (0 : Int64) = lN 0 from rfl, pk_lEQ (by omega) (by decide)] at q
          omega
        refine lv_lload hx hb d_M_common_35 (lv_at hl 2 rfl) ?_
        refine lv_lload hx hb d_M_common_37 (lv_at hl 3 rfl) ?_
        refine lv_lrem hx hb d_M_common_39 hne39 ?_
        refine lv_topl (fun x39 ex39 => ?_)
        refine lv_lstore (lv' := [(8, .long x39), (0, .long x), (2, .long y), (4, .long (lN a)), (6, .long (lN b))]) hx hb d_M_common_40 hl (by decide) rfl (fun ls hl => ?_)
        refine lv_lload hx hb d_M_common_42 (lv_at hl 4 rfl) ?_
        refine lv_lstore (lv' := [(4, .long (lN b)), (8, .long x39), (0, .long x), (2, .long y), (6, .long (lN b))]) hx hb d_M_common_44 hl (by decide) rfl (fun ls hl => ?_)
        refine lv_lload hx hb d_M_common_46 (lv_at hl 1 rfl) ?_
        refine lv_lstore (lv' := [(6, .long x39), (4, .long (lN b)), (8, .long x39), (0, .long x), (2, .long y)]) hx hb d_M_common_48 hl (by decide) rfl (fun ls hl => ?_)
        refine lv_goto (tgt := 28) hx hb d_M_common_50 (by decide) ?_
        have e39 : x39 = lN (a % b) := by rw [ex39]; exact pk_lRem (by omega) h32 (by omega)
        rw [e39] at hl
        exact ih (a % b) (Nat.mod_lt a h32) b ls hb1 (by have := Nat.mod_lt a h32; omega) (by rw [← hg, Nat.gcd_comm b, ← Nat.gcd_rec, Nat.gcd_comm]) (lv_sub hl [3, 4, 1, 0] rfl)
  have A : ∀ (v : Int64), v.toInt.natAbs ≤ 2147483648 → ((0 ≤ v.toInt → v = lN v.toInt.natAbs) ∧ (v.toInt < 0 → -v = lN v.toInt.natAbs)) := fun v hv => by
    constructor
    · intro h
      apply Int64.toInt_inj.mp
      rw [pk_lT (by omega)]
      omega
    · intro h
      apply Int64.toInt_inj.mp
      rw [pk_lT (by omega), Jvm.Kit.i64_neg (by omega)]
      omega
  have E26 : ∀ (v4 v6 : Int64) (ls : Array Slot), v4 = lN x.toInt.natAbs → v6 = lN y.toInt.natAbs → lv_has ls 10 [(0, .long x), (2, .long y), (4, .long v4)] → W p l e ({ frames := 0, cells := 0, slots := 0, locals := 0 } : Room) s m ([.long x, .long y] : List Value).toArray below meth c s.heap [] 0 0 (MQ below (prQ (.long (lN (Nat.gcd x.toInt.natAbs y.toInt.natAbs)))) ([.long x, .long y] : List Value).toArray s 0 0 (fun _ => False)) (F0 m 26 ls [.long v6]) := by
    intro v4 v6 ls e4 e6 hl
    refine lv_lstore (lv' := [(6, .long v6), (0, .long x), (2, .long y), (4, .long v4)]) hx hb d_M_common_26 hl (by decide) rfl (fun ls hl => ?_)
    rw [e4, e6] at hl
    exact K y.toInt.natAbs x.toInt.natAbs ls hx1 hy1 rfl (lv_sub hl [1, 2, 3, 0] rfl)
  have E12 : ∀ (v4 : Int64) (ls : Array Slot), v4 = lN x.toInt.natAbs → lv_has ls 10 [(0, .long x), (2, .long y)] → W p l e ({ frames := 0, cells := 0, slots := 0, locals := 0 } : Room) s m ([.long x, .long y] : List Value).toArray below meth c s.heap [] 0 0 (MQ below (prQ (.long (lN (Nat.gcd x.toInt.natAbs y.toInt.natAbs)))) ([.long x, .long y] : List Value).toArray s 0 0 (fun _ => False)) (F0 m 12 ls [.long v4]) := by
    intro v4 ls e4 hl
    refine lv_lstore (lv' := [(4, .long v4), (0, .long x), (2, .long y)]) hx hb d_M_common_12 hl (by decide) rfl (fun ls hl => ?_)
    refine lv_lload_n hx hb d_M_common_14 rfl (lv_at hl 2 rfl) ?_
    refine lv_lconst (v := 0) hx hb d_M_common_15 (by decide) ?_
    refine W.lcmp hx hb d_M_common_16 ?_
    refine lv_if_ge (tgt := 25) hx hb d_M_common_17 (by decide) (fun c17 => ?_) (fun c17 => ?_)
    · have h17 : 0 ≤ y.toInt := by
        have q := (lg_cmp_ge _ _).mp c17
        rw [Int64.le_iff_toInt_le, Int64.toInt_zero] at q
        exact q
      refine lv_lload_n hx hb d_M_common_25 rfl (lv_at hl 2 rfl) ?_
      exact E26 v4 y ls e4 ((A y hy1).1 h17) (lv_sub hl [1, 2, 0] rfl)
    · have h17 : y.toInt < 0 := by
        have q : ¬ (0 : Int64) ≤ y := fun q => c17 ((lg_cmp_ge _ _).mpr q)
        rw [Int64.le_iff_toInt_le, Int64.toInt_zero] at q
        omega
      refine lv_lload_n hx hb d_M_common_20 rfl (lv_at hl 2 rfl) ?_
      refine lv_lneg hx hb d_M_common_21 ?_
      refine lv_topl (fun x21 ex21 => ?_)
      refine lv_goto (tgt := 26) hx hb d_M_common_22 (by decide) ?_
      exact E26 v4 x21 ls e4 (by rw [ex21]; exact (A y hy1).2 h17) (lv_sub hl [1, 2, 0] rfl)
  refine lv_lload_n hx hb d_M_common_0 rfl (lv_at hl 0 rfl) ?_
  refine lv_lconst (v := 0) hx hb d_M_common_1 (by decide) ?_
  refine W.lcmp hx hb d_M_common_2 ?_
  refine lv_if_ge (tgt := 11) hx hb d_M_common_3 (by decide) (fun c3 => ?_) (fun c3 => ?_)
  · have h3 : 0 ≤ x.toInt := by
      have q := (lg_cmp_ge _ _).mp c3
      rw [Int64.le_iff_toInt_le, Int64.toInt_zero] at q
      exact q
    refine lv_lload_n hx hb d_M_common_11 rfl (lv_at hl 0 rfl) ?_
    exact E12 x ls ((A x hx1).1 h3) (lv_sub hl [0, 1] rfl)
  · have h3 : x.toInt < 0 := by
      have q : ¬ (0 : Int64) ≤ x := fun q => c3 ((lg_cmp_ge _ _).mpr q)
      rw [Int64.le_iff_toInt_le, Int64.toInt_zero] at q
      omega
    refine lv_lload_n hx hb d_M_common_6 rfl (lv_at hl 0 rfl) ?_
    refine lv_lneg hx hb d_M_common_7 ?_
    refine lv_topl (fun x7 ex7 => ?_)
    refine lv_goto (tgt := 12) hx hb d_M_common_8 (by decide) ?_
    exact E12 x7 ls (by rw [ex7]; exact (A x hx1).2 h3) (lv_sub hl [0, 1] rfl)
  /-- signed values -/
  noncomputable def HW : Nat := Classical.choose (⟨32768 * 65536 ^ 1099, rfl⟩ : ∃ n : Nat, n = 32768 * 65536 ^ 1099)
  theorem HW_def : HW = 32768 * 65536 ^ 1099 := Classical.choose_spec (⟨32768 * 65536 ^ 1099, rfl⟩ : ∃ n : Nat, n = 32768 * 65536 ^ 1099)
  theorem HW_2 : WW = 2 * HW := by
    rw [HW_def, WW_def, show (65536 : Nat) ^ 1100 = 65536 ^ 1099 * 65536 from Nat.pow_succ .., ← Nat.mul_assoc, Nat.mul_comm]
  theorem top_iff {f : Nat → Int32} {i : Nat} (hi : i < 11) (h : dgOk f) : 32767 < wn (f (1100 * i + 1099)) ↔ HW ≤ rv f i := by
    have h1 := dv_lt hi h 1099 (by decide)
    have e : rv f i = dv f i 1099 + wn (f (1100 * i + 1099)) * 65536 ^ 1099 := rfl
    rw [e, HW_def]
    generalize (65536 : Nat) ^ 1099 = P at h1
    generalize wn (f (1100 * i + 1099)) = t
    constructor
    · intro q
      have := Nat.mul_le_mul_right P (show 32768 ≤ t by omega)
      omega
    · intro q
      apply Classical.byContradiction
      intro w
      have := Nat.mul_le_mul_right P (show t + 1 ≤ 32768 by omega)
      rw [Nat.add_mul, Nat.one_mul] at this
      omega
  noncomputable def sv (f : Nat → Int32) (i : Nat) : Int := if rv f i < HW then (rv f i : Int) else (rv f i : Int) - (WW : Int)
  theorem sv_eq {f f2 : Nat → Int32} {i j : Nat} (h : rv f i = rv f2 j) : sv f i = sv f2 j := by unfold sv; rw [h]
  theorem rsm.sv {f g : Nat → Int32} {to i : Nat} (h : rsm f g to) (hi : i ≠ to) : sv g i = sv f i := sv_eq (h.rv hi)
  theorem rsm.tr {a b c : Nat → Int32} {to : Nat} (h : rsm a b to) (k : rsm b c to) : rsm a c to := fun q w => (k q w).trans (h q w)
set_option maxHeartbeats 4000000 in
set_option maxRecDepth 100000 in
theorem cm_sized (l : Launch) (z : YM) (sz : Nat) (g : SM) {i : Nat} (hi : i < 10) (hok : dgOk g.2.2.2.2.2) : Met l y_M_sized (zw y_M_sized b_M_sized 2 (some .int)) { frames := 2, cells := 0, slots := 0, locals := 55 } (va_Pc [.ref (oM z), .int (nI i)] (mI z g sz)) (va_Qi (fun r g2 => ∃ f n, g2 = mF g f ∧ dgOk f ∧ rsm g.2.2.2.2.2 f 10 ∧ rv f 10 = (sv g.2.2.2.2.2 i).natAbs ∧ r = nI n ∧ n ≤ 1100 ∧ (∀ k, n ≤ k → k < 1100 → f (1100 * 10 + k) = 0) ∧ (n = 0 ∨ f (1100 * 10 + (n - 1)) ≠ 0)) (mO z sz) (yA z sz)) 0 0 (yA z sz) := by
  refine m_ofW (by decide) (Nat.le_of_ble_eq_true rfl) (fun p e s m below meth c hx hb hr hml hown hts hlocks hname hsz ls hU hl => ?_)
  have hl : lv_has ls 2 [(0, .ref (oM z)), (1, .int (nI i))] := hl
  have htop := top_iff (i := i) (by omega) hok
  have hrl := rv_lt (i := i) (by omega) hok
  have hww := HW_2
  have E : ∀ (f : Nat → Int32) (H : Heap) (locs : List Loc) (ls : Array Slot), dgOk f → rsm g.2.2.2.2.2 f 10 → rv f 10 = (sv g.2.2.2.2.2 i).natAbs → Ms z (mF g f) s.heap H locs s → lv_has ls 2 [(0, .ref (oM z)), (1, .int (nI i))] → W p l e ({ frames := 2, cells := 0, slots := 0, locals := 55 } : Room) s m ([.ref (oM z), .int (nI i)] : List Value).toArray below meth c H locs 0 0 (MQ below (va_Qi (fun r g2 => ∃ f n, g2 = mF g f ∧ dgOk f ∧ rsm g.2.2.2.2.2 f 10 ∧ rv f 10 = (sv g.2.2.2.2.2 i).natAbs ∧ r = nI n ∧ n ≤ 1100 ∧ (∀ k, n ≤ k → k < 1100 → f (1100 * 10 + k) = 0) ∧ (n = 0 ∨ f (1100 * 10 + (n - 1)) ≠ 0)) (mO z sz) (yA z sz)) ([.ref (oM z), .int (nI i)] : List Value).toArray s 0 0 (yA z sz)) (F0 m 30 ls []) := by
    intro f H locs ls h1 h2 h3 hU hl
    refine lv_aload_n hx hb d_M_sized_30 rfl (lv_at hl 0 rfl) ?_
    refine lv_bipush (v := 10) hx hb d_M_sized_31 (by decide) ?_
    refine m_calli (m_run (As := [.int 10]) (rest := []) hx hb hml hown hts hU (cm_length l z _ (mF g f) (i := 10) (by decide)) (w_M_length_cw hts k_M_37 rfl rfl ⟨Nat.le_of_ble_eq_true rfl, Nat.le_of_ble_eq_true rfl⟩) (m_recv hU) rfl hl.1 rfl (lv_room (Nat.le_of_ble_eq_true rfl)) d_M_sized_33 ⟨Nat.zero_le _, Nat.zero_le _⟩) hU (fun r33 g33 H locs hp hU => ?_)
    obtain ⟨rfl, n, k1, k2, k3, k4⟩ := hp
    exact m_iret hx hb hr hlocks hsz hU ⟨f, n, rfl, h1, h2, h3, k2, k1, k3, k4⟩ d_M_sized_36
  refine lv_aload_n hx hb d_M_sized_0 rfl (lv_at hl 0 rfl) ?_
  refine lv_iload_n hx hb d_M_sized_1 rfl (lv_at hl 1 rfl) ?_
  refine m_calli (m_run (As := [.int (nI i)]) (rest := []) hx hb hml hown hts hU (cm_isBelow l z _ g (i := i) (by omega)) (w_M_isBelow_cw hts k_M_123 rfl rfl ⟨Nat.le_of_ble_eq_true rfl, Nat.le_of_ble_eq_true rfl⟩) (m_recv hU) rfl hl.1 rfl (lv_room (Nat.le_of_ble_eq_true rfl)) d_M_sized_2 ⟨Nat.zero_le _, Nat.zero_le _⟩) hU (fun r2 g2 H locs hp hU => ?_)
  obtain ⟨q1, q2⟩ := hp
  rw [q1] at hU
  rw [dg_int (hok _ (by omega))] at q2
  refine lv_if_eq (tgt := 23) hx hb d_M_sized_5 (by decide) (fun c5 => ?_) (fun c5 => ?_)
  · have h5 : rv g.2.2.2.2.2 i < HW := by
      apply Classical.byContradiction
      intro w
      rw [q2, if_pos (by have := htop.mpr (by omega); omega)] at c5
      exact absurd c5 (by decide)
    refine lv_aload_n hx hb d_M_sized_23 rfl (lv_at hl 0 rfl) ?_
    refine lv_bipush (v := 10) hx hb d_M_sized_24 (by decide) ?_
    refine lv_iload_n hx hb d_M_sized_26 rfl (lv_at hl 1 rfl) ?_
    refine m_callv (m_run (As := [.int 10, .int (nI i)]) (rest := []) hx hb hml hown hts hU (cm_copy l z _ g (to := 10) (fr := i) (by decide) (by omega) (by omega) hok) (w_M_copy_cw hts k_M_73 rfl rfl ⟨Nat.le_of_ble_eq_true rfl, Nat.le_of_ble_eq_true rfl⟩) (m_recv hU) rfl hl.1 rfl (lv_room (Nat.le_of_ble_eq_true rfl)) d_M_sized_27 ⟨Nat.zero_le _, Nat.zero_le _⟩) hU (fun g27 H locs hp hU => ?_)
    obtain ⟨f, rfl, k1, k2, k3⟩ := hp
    exact E f _ _ ls k1 k2 (by rw [k3, sv, if_pos h5]; omega) hU hl
  · have h5 : HW ≤ rv g.2.2.2.2.2 i := by
      apply Classical.byContradiction
      intro w
      exact c5 (by rw [q2, if_neg (fun q => w (htop.mp (by omega)))])
    refine lv_aload_n hx hb d_M_sized_8 rfl (lv_at hl 0 rfl) ?_
    refine lv_bipush (v := 10) hx hb d_M_sized_9 (by decide) ?_
    refine lv_ldc2 (v := (-1)) hx hb hown (hts _ k_M_127) d_M_sized_11 ?_
    refine lv_iload_n hx hb d_M_sized_14 rfl (lv_at hl 1 rfl) ?_
    refine lv_lconst (v := 0) hx hb d_M_sized_15 (by decide) ?_
    refine lv_iload_n hx hb d_M_sized_16 rfl (lv_at hl 1 rfl) ?_
    refine m_callv (m_run (As := [.int 10, .long (-1), .int (nI i), .long 0, .int (nI i)]) (rest := []) hx hb hml hown hts hU (cm_combine l z _ g (to := 10) (i := i) (j := i) (by decide) (by omega) (by omega) (x := -1) (y := 0) (by decide) (by decide) (by decide) (by decide) hok) (w_M_combine_cw hts k_M_69 rfl rfl ⟨Nat.le_of_ble_eq_true rfl, Nat.le_of_ble_eq_true rfl⟩) (m_recv hU) rfl hl.1 rfl (lv_room (Nat.le_of_ble_eq_true rfl)) d_M_sized_17 ⟨Nat.zero_le _, Nat.zero_le _⟩) hU (fun g17 H locs hp hU => ?_)
    obtain ⟨f, rfl, k1, k2, k3⟩ := hp
    refine lv_goto (tgt := 30) hx hb d_M_sized_20 (by decide) ?_
    exact E f _ _ ls k1 k2 (by
      rw [show (-1 : Int64).toInt = -1 from rfl, show (0 : Int64).toInt = 0 from rfl, Int.zero_mul, Int.add_zero] at k3
      rw [sv, if_neg (by omega)]
      have h9 : (-1 * (rv g.2.2.2.2.2 i : Int)) % (WW : Int) = (WW : Int) - (rv g.2.2.2.2.2 i : Int) := by
        rw [show -1 * (rv g.2.2.2.2.2 i : Int) = ((WW : Int) - (rv g.2.2.2.2.2 i : Int)) + (WW : Int) * (-1) by omega, Int.add_mul_emod_self_left]
        have hp : 0 < HW := by rw [HW_def]; exact Nat.mul_pos (by decide) (Nat.pow_pos (by decide))
        exact Int.emod_eq_of_lt (by omega) (by omega)
      rw [h9] at k3
      omega) hU (lv_sub hl [0, 1] rfl)
end
section
/-! UnitFinderModel: bits, residues, matrices, the automorph -/
def bl (v : Nat) : Nat := if v = 0 then 0 else Nat.log2 v + 1
theorem bl_half {v : Nat} (h : 0 < v) : bl v = bl (v / 2) + 1 := by
  unfold bl
  rw [if_neg (by omega), Nat.log2_def]
  split
  · rename_i q; rw [if_neg (by omega)]
  · rename_i q; rw [if_pos (by omega)]
theorem bl_top {low T s : Nat} (h1 : low < 2 ^ s) (h2 : 0 < T) : bl (low + T * 2 ^ s) = s + bl T := by
  have hp := Nat.two_pow_pos s
  have h3 : 1 * 2 ^ s ≤ T * 2 ^ s := Nat.mul_le_mul_right _ h2
  unfold bl
  rw [if_neg (by omega), if_neg (by omega)]
  have h4 : Nat.log2 (low + T * 2 ^ s) = s + Nat.log2 T := by
    rw [Nat.log2_eq_iff (by omega)]
    have h5 := Nat.log2_self_le (n := T) (by omega)
    have h6 := Nat.lt_log2_self (n := T)
    constructor
    · rw [Nat.pow_add, Nat.mul_comm]
      have := Nat.mul_le_mul_right (2 ^ s) h5
      omega
    · rw [show s + T.log2 + 1 = (T.log2 + 1) + s by omega, Nat.pow_add]
      have := Nat.mul_le_mul_right (2 ^ s) (show T + 1 ≤ 2 ^ (T.log2 + 1) from h6)
      rw [Nat.add_mul, Nat.one_mul] at this
      omega
  omega
theorem dv_zero {f : Nat → Int32} {i a : Nat} : ∀ {n : Nat}, a ≤ n → (∀ k, a ≤ k → k < n → f (1100 * i + k) = 0) → dv f i n = dv f i a := by
  intro n
  induction n with
  | zero => intro q _; rw [Nat.le_zero.mp q]
  | succ n ih =>
    intro q w
    rcases Nat.lt_or_ge n a with h1 | h1
    · rw [show a = n + 1 by omega]
    · rw [dv_s, w n h1 (by omega), wn_0, Nat.zero_mul, Nat.add_zero]; exact ih h1 (fun m a b => w m a (by omega))
theorem dv_hi {f : Nat → Int32} {i n k : Nat} (hi : i < 11) (h : dgOk f) (hn : n ≤ 1100) (hk : n ≤ k) : dv f i n / 65536 ^ k = 0 :=
  Nat.div_eq_of_lt (Nat.lt_of_lt_of_le (dv_lt hi h n hn) (Nat.pow_le_pow_right (by decide) hk))
theorem dv_word {f : Nat → Int32} {i : Nat} (hi : i < 11) (h : dgOk f) (k : Nat) : ∀ n, k < n → n ≤ 1100 → dv f i n / 65536 ^ k % 65536 = wn (f (1100 * i + k)) := by
  intro n
  induction n with
  | zero => intro h; omega
  | succ n ih =>
    intro h1 h2
    have hp : 0 < 65536 ^ k := Nat.pow_pos (by decide)
    rw [dv_s]
    rcases Nat.lt_or_ge k n with h3 | h3
    · obtain ⟨d, rfl⟩ : ∃ d, n = k + 1 + d := ⟨n - k - 1, by omega⟩
      have e : wn (f (1100 * i + (k + 1 + d))) * 65536 ^ (k + 1 + d) = 65536 ^ k * (65536 * (wn (f (1100 * i + (k + 1 + d))) * 65536 ^ d)) := by
        rw [Nat.pow_add, Nat.pow_succ]
        ac_rfl
      rw [e, Nat.add_mul_div_left _ _ hp, Nat.add_mul_mod_self_left]
      exact ih h3 (by omega)
    · have e : k = n := by omega
      subst e
      rw [Nat.add_mul_div_right _ _ hp, dv_hi hi h (by omega) (Nat.le_refl k), Nat.zero_add]
      exact Nat.mod_eq_of_lt (h _ (by omega))
theorem dv_divw {f : Nat → Int32} {i n q M : Nat} (hi : i < 11) (h : dgOk f) (hn : n ≤ 1100) (hq : q < n) : (dv f i n / 65536 ^ (q + 1) % M * 65536 + wn (f (1100 * i + q))) % M = dv f i n / 65536 ^ q % M := by
  have e := Nat.div_add_mod (dv f i n / 65536 ^ q) 65536
  rw [dv_word hi h q n hq hn, Nat.div_div_eq_div_mul, ← Nat.pow_succ] at e
  rw [← e, Nat.add_mod, Nat.mod_mul_mod, ← Nat.add_mod, Nat.mul_comm]
theorem neg_abs {x : Int} (h : x ≤ 0) : x = -((x.natAbs : Nat) : Int) := by omega
theorem sv_np {f : Nat → Int32} {i : Nat} (h : ¬ rv f i < HW) (h2 : rv f i < WW) : sv f i ≤ 0 := by
  unfold sv
  rw [if_neg h]
  have h3 : (rv f i : Int) < (WW : Int) := Int.ofNat_lt.mpr h2
  generalize (rv f i : Int) = R at h3
  generalize (WW : Int) = Q at h3
  omega
set_option maxHeartbeats 4000000 in
set_option maxRecDepth 100000 in
theorem cm_bitsOf (l : Launch) (z : YM) (sz : Nat) (g : SM) {i : Nat} (hi : i < 10) (hok : dgOk g.2.2.2.2.2) : Met l y_M_bitsOf (zw y_M_bitsOf b_M_bitsOf 5 (some .int)) { frames := 3, cells := 0, slots := 0, locals := 76 } (va_Pc [.ref (oM z), .int (nI i)] (mI z g sz)) (va_Qi (fun r g2 => ∃ f, g2 = mF g f ∧ dgOk f ∧ rsm g.2.2.2.2.2 f 10 ∧ r = nI (bl (sv g.2.2.2.2.2 i).natAbs)) (mO z sz) (yA z sz)) 0 0 (yA z sz) := by
  refine m_ofW (by decide) (Nat.le_of_ble_eq_true rfl) (fun p e s m below meth c hx hb hr hml hown hts hlocks hname hsz ls hU hl => ?_)
  have hl : lv_has ls 5 [(0, .ref (oM z)), (1, .int (nI i))] := hl
  have K : ∀ (T k : Nat) (f : Nat → Int32) (x2 : Int32) (H : Heap) (locs : List Loc) (ls : Array Slot), T < 65536 → dgOk f → rsm g.2.2.2.2.2 f 10 → k + bl T = bl (sv g.2.2.2.2.2 i).natAbs → Ms z (mF g f) s.heap H locs s → lv_has ls 5 [(0, .ref (oM z)), (1, .int (nI i)), (2, .int x2), (3, .int (nI k)), (4, .int (nI T))] → W p l e ({ frames := 3, cells := 0, slots := 0, locals := 76 } : Room) s m ([.ref (oM z), .int (nI i)] : List Value).toArray below meth c H locs 0 0 (MQ below (va_Qi (fun r g2 => ∃ f, g2 = mF g f ∧ dgOk f ∧ rsm g.2.2.2.2.2 f 10 ∧ r = nI (bl (sv g.2.2.2.2.2 i).natAbs)) (mO z sz) (yA z sz)) ([.ref (oM z), .int (nI i)] : List Value).toArray s 0 0 (yA z sz)) (F0 m 40 ls []) := by
    intro T
    induction T using Nat.strongRecOn with
    | _ T ih =>
      intro k f x2 H locs ls hT h1 h2 h3 hU hl
      refine lv_iload hx hb d_M_bitsOf_40 (lv_at hl 4 rfl) ?_
      refine lv_if_le (tgt := 57) hx hb d_M_bitsOf_42 (by decide) (fun c42 => ?_) (fun c42 => ?_)
      · have h42 : T = 0 := Nat.eq_zero_of_not_pos (fun q => nI_nle q (by omega) c42)
        rw [h42] at h3
        refine lv_iload_n hx hb d_M_bitsOf_57 rfl (lv_at hl 3 rfl) ?_
        exact m_iret hx hb hr hlocks hsz hU ⟨f, rfl, h1, h2, by rw [← h3]; rfl⟩ d_M_bitsOf_58
      · have h42 : 0 < T := Nat.pos_of_ne_zero (fun q => c42 (by rw [q]; decide))
        obtain ⟨x45, ex45⟩ : ∃ y : Int32, y = (nI k) + Int32.ofInt 1 := ⟨_, rfl⟩
        refine lv_iinc (v := x45) (lv' := [(3, .int x45), (0, .ref (oM z)), (1, .int (nI i)), (2, .int x2), (4, .int (nI T))]) hx hb d_M_bitsOf_45 hl (k := 3) rfl (by rw [ex45]) (by decide) rfl (fun ls hl => ?_)
        refine lv_iload hx hb d_M_bitsOf_48 (lv_at hl 4 rfl) ?_
        refine lv_iconst (v := 1) hx hb d_M_bitsOf_50 (by decide) ?_
        refine lv_ishr hx hb d_M_bitsOf_51 ?_
        refine lv_topi (fun x51 ex51 => ?_)
        refine lv_istore (lv' := [(4, .int x51), (3, .int x45), (0, .ref (oM z)), (1, .int (nI i)), (2, .int x2)]) hx hb d_M_bitsOf_52 hl (by decide) rfl (fun ls hl => ?_)
        refine lv_goto (tgt := 40) hx hb d_M_bitsOf_54 (by decide) ?_
        have e51 : x51 = nI (T / 2) := by rw [ex51]; exact pk_shrN (by omega) 1 1 (by decide)
        rw [e51, ex45, show Int32.ofInt 1 = 1 from rfl, nI_1] at hl
        exact ih (T / 2) (by omega) (k + 1) f x2 _ _ ls (by omega) h1 h2 (by rw [← h3, bl_half h42]; omega) hU (lv_sub hl [2, 3, 4, 1, 0] rfl)
  refine lv_aload_n hx hb d_M_bitsOf_0 rfl (lv_at hl 0 rfl) ?_
  refine lv_iload_n hx hb d_M_bitsOf_1 rfl (lv_at hl 1 rfl) ?_
  refine m_calli (m_run (As := [.int (nI i)]) (rest := []) hx hb hml hown hts hU (cm_sized l z _ g hi hok) (w_M_sized_cw hts k_M_129 rfl rfl ⟨Nat.le_of_ble_eq_true rfl, Nat.le_of_ble_eq_true rfl⟩) (m_recv hU) rfl hl.1 rfl (lv_room (Nat.le_of_ble_eq_true rfl)) d_M_bitsOf_2 ⟨Nat.zero_le _, Nat.zero_le _⟩) hU (fun r2 g2 H locs hp hU => ?_)
  obtain ⟨f, n, rfl, k1, k2, k3, k4, k5, k6, k7⟩ := hp
  rw [k4]
  have hV : rv f 10 = dv f 10 n := dv_zero k5 k6
  refine lv_istore_n (lv' := [(2, .int (nI n)), (0, .ref (oM z)), (1, .int (nI i))]) hx hb d_M_bitsOf_5 rfl hl (by decide) rfl (fun ls hl => ?_)
  refine lv_iload_n hx hb d_M_bitsOf_6 rfl (lv_at hl 0 rfl) ?_
  refine lv_if_ne (tgt := 14) hx hb d_M_bitsOf_7 (by decide) (fun c7 => ?_) (fun c7 => ?_)
  · have h7 : 0 < n := Nat.pos_of_ne_zero (fun q => c7 (by rw [q]; rfl))
    obtain ⟨j, rfl⟩ : ∃ j, n = j + 1 := ⟨n - 1, by omega⟩
    refine lv_bipush (v := 16) hx hb d_M_bitsOf_14 (by decide) ?_
    refine lv_iload_n hx hb d_M_bitsOf_16 rfl (lv_at hl 0 rfl) ?_
    refine lv_iconst (v := 1) hx hb d_M_bitsOf_17 (by decide) ?_
    refine lv_isub hx hb d_M_bitsOf_18 ?_
    refine lv_topi (fun x18 ex18 => ?_)
    refine lv_imul hx hb d_M_bitsOf_19 ?_
    refine lv_topi (fun x19 ex19 => ?_)
    refine lv_istore_n (lv' := [(3, .int x19), (2, .int (nI (j + 1))), (0, .ref (oM z)), (1, .int (nI i))]) hx hb d_M_bitsOf_20 rfl hl (by decide) rfl (fun ls hl => ?_)
    refine lv_iload_n hx hb d_M_bitsOf_21 rfl (lv_at hl 1 rfl) ?_
    refine lv_if_ne (tgt := 29) hx hb d_M_bitsOf_22 (by decide) (fun c22 => ?_) (fun c22 => ?_)
    · have e18 : x18 = nI j := by rw [ex18]; exact nI_pred j
      have e19 : x19 = nI (16 * j) := by rw [ex19, e18]; exact pk_mul 16 j
      rw [e19] at hl
      refine lv_aload_n hx hb d_M_bitsOf_29 rfl (lv_at hl 2 rfl) ?_
      refine lv_bipush (v := 10) hx hb d_M_bitsOf_30 (by decide) ?_
      refine lv_iload_n hx hb d_M_bitsOf_32 rfl (lv_at hl 1 rfl) ?_
      refine lv_iconst (v := 1) hx hb d_M_bitsOf_33 (by decide) ?_
      refine lv_isub hx hb d_M_bitsOf_34 ?_
      refine lv_topi (fun x34 ex34 => ?_)
      have e34 : x34 = nI j := by rw [ex34]; exact nI_pred j
      rw [e34]
      refine m_calli (m_run (As := [.int 10, .int (nI j)]) (rest := []) hx hb hml hown hts hU (cm_get l z _ (mF g f) (i := 10) (by decide) (k := j) (by omega)) (w_M_get_cw hts k_M_33 rfl rfl ⟨Nat.le_of_ble_eq_true rfl, Nat.le_of_ble_eq_true rfl⟩) (m_recv hU) rfl hl.1 rfl (lv_room (Nat.le_of_ble_eq_true rfl)) d_M_bitsOf_35 ⟨Nat.zero_le _, Nat.zero_le _⟩) hU (fun r35 g35 H locs hp hU => ?_)
      obtain ⟨rfl, q35⟩ := hp
      have w1 := k1 (1100 * 10 + j) (by omega)
      have q35 : r35 = nI (wn (f (1100 * 10 + j))) := by rw [q35]; exact (nI_wn _).symm
      rw [q35]
      refine lv_istore (lv' := [(4, .int (nI (wn (f (1100 * 10 + j))))), (3, .int (nI (16 * j))), (2, .int (nI (j + 1))), (0, .ref (oM z)), (1, .int (nI i))]) hx hb d_M_bitsOf_38 hl (by decide) rfl (fun ls hl => ?_)
      have hT0 : 0 < wn (f (1100 * 10 + j)) := Nat.pos_of_ne_zero (fun q => k7.resolve_left (by omega) (wn_inj (by rw [Nat.add_sub_cancel]; exact q.trans wn_0.symm)))
      exact K (wn (f (1100 * 10 + j))) (16 * j) f _ _ _ ls w1 k1 k2 (by
        rw [← k3, hV, dv_s]
        have e2 : (65536 : Nat) ^ j = 2 ^ (16 * j) := by rw [Nat.pow_mul]
        have h9 := dv_lt (f := f) (i := 10) (by decide) k1 j (by omega)
        rw [e2] at h9 ⊢
        rw [bl_top h9 hT0]) hU (lv_sub hl [3, 4, 2, 1, 0] rfl)
    · exact absurd c22 c7
  · have h7 : n = 0 := Nat.eq_zero_of_not_pos (fun q => nI_ne0 q (by omega) c7)
    refine lv_iconst (v := 0) hx hb d_M_bitsOf_10 (by decide) ?_
    refine lv_goto (tgt := 20) hx hb d_M_bitsOf_11 (by decide) ?_
    refine lv_istore_n (lv' := [(3, .int 0), (2, .int (nI n)), (0, .ref (oM z)), (1, .int (nI i))]) hx hb d_M_bitsOf_20 rfl hl (by decide) rfl (fun ls hl => ?_)
    refine lv_iload_n hx hb d_M_bitsOf_21 rfl (lv_at hl 1 rfl) ?_
    refine lv_if_ne (tgt := 29) hx hb d_M_bitsOf_22 (by decide) (fun c22 => ?_) (fun c22 => ?_)
    · exact absurd c7 c22
    · refine lv_iconst (v := 0) hx hb d_M_bitsOf_25 (by decide) ?_
      refine lv_goto (tgt := 38) hx hb d_M_bitsOf_26 (by decide) ?_
      refine lv_istore (lv' := [(4, .int 0), (3, .int 0), (2, .int (nI n)), (0, .ref (oM z)), (1, .int (nI i))]) hx hb d_M_bitsOf_38 hl (by decide) rfl (fun ls hl => ?_)
      exact K 0 0 f _ _ _ ls (by decide) k1 k2 (by rw [← k3, hV, h7]; rfl) hU (lv_sub hl [3, 4, 2, 1, 0] rfl)
set_option maxHeartbeats 4000000 in
set_option maxRecDepth 100000 in
theorem cm_left (l : Launch) (z : YM) (sz : Nat) (g : SM) {i : Nat} (hi : i < 10) (hok : dgOk g.2.2.2.2.2) {M : Nat} (hM0 : 0 < M) (hM : M < 2 ^ 31) : Met l y_M_left (zw y_M_left b_M_left 7 (some .long)) { frames := 3, cells := 0, slots := 0, locals := 76 } (va_Pc [.ref (oM z), .int (nI i), .long (lN M)] (mI z g sz)) (va_Ql (fun r g2 => ∃ f, g2 = mF g f ∧ dgOk f ∧ rsm g.2.2.2.2.2 f 10 ∧ r.toInt = sv g.2.2.2.2.2 i % (M : Int)) (mO z sz) (yA z sz)) 0 0 (yA z sz) := by
  refine m_ofW (by decide) (Nat.le_of_ble_eq_true rfl) (fun p e s m below meth c hx hb hr hml hown hts hlocks hname hsz ls hU hl => ?_)
  have hl : lv_has ls 7 [(0, .ref (oM z)), (1, .int (nI i)), (2, .long (lN M))] := hl
  have htop := top_iff (i := i) (by omega) hok
  have hrl := rv_lt (i := i) (by omega) hok
  have hww := HW_2
  have K : ∀ (q N : Nat) (f : Nat → Int32) (rs : Nat) (H : Heap) (locs : List Loc) (ls : Array Slot), q ≤ N → N ≤ 1100 → dgOk f → rsm g.2.2.2.2.2 f 10 → rv f 10 = (sv g.2.2.2.2.2 i).natAbs → rv f 10 = dv f 10 N → rs = dv f 10 N / 65536 ^ q % M → Ms z (mF g f) s.heap H locs s → lv_has ls 7 [(0, .ref (oM z)), (1, .int (nI i)), (2, .long (lN M)), (4, .long (lN rs)), (6, .int (nI q - 1))] → W p l e ({ frames := 3, cells := 0, slots := 0, locals := 76 } : Room) s m ([.ref (oM z), .int (nI i), .long (lN M)] : List Value).toArray below meth c H locs 0 0 (MQ below (va_Ql (fun r g2 => ∃ f, g2 = mF g f ∧ dgOk f ∧ rsm g.2.2.2.2.2 f 10 ∧ r.toInt = sv g.2.2.2.2.2 i % (M : Int)) (mO z sz) (yA z sz)) ([.ref (oM z), .int (nI i), .long (lN M)] : List Value).toArray s 0 0 (yA z sz)) (F0 m 12 ls []) := by
    intro q
    induction q with
    | zero =>
      intro N f rs H locs ls hq hN h1 h2 h3 h4 hI hU hl
      have hI : rs = (sv g.2.2.2.2.2 i).natAbs % M := by rw [hI, ← h4, h3, Nat.pow_zero, Nat.div_one]
      have hlt : rs < M := by rw [hI]; exact Nat.mod_lt _ hM0
      have t0 : (lN rs).toInt = (rs : Int) := pk_lT (by omega)
      refine lv_iload hx hb d_M_left_12 (lv_at hl 4 rfl) ?_
      refine lv_if_lt (tgt := 43) hx hb d_M_left_14 (by decide) (fun c14 => ?_) (fun c14 => ?_)
      · refine lv_aload_n hx hb d_M_left_43 rfl (lv_at hl 0 rfl) ?_
        refine lv_iload_n hx hb d_M_left_44 rfl (lv_at hl 1 rfl) ?_
        refine m_calli (m_run (As := [.int (nI i)]) (rest := []) hx hb hml hown hts hU (cm_isBelow l z _ (mF g f) (i := i) (by omega)) (w_M_isBelow_cw hts k_M_123 rfl rfl ⟨Nat.le_of_ble_eq_true rfl, Nat.le_of_ble_eq_true rfl⟩) (m_recv hU) rfl hl.1 rfl (lv_room (Nat.le_of_ble_eq_true rfl)) d_M_left_45 ⟨Nat.zero_le _, Nat.zero_le _⟩) hU (fun r45 g45 H locs hp hU => ?_)
        obtain ⟨rfl, q2⟩ := hp
        have q2 : r45 = (if 32767 < (f (1100 * i + 1099)).toInt then 1 else 0) := q2
        rw [h2 (1100 * i + 1099) (by omega), dg_int (hok _ (by omega))] at q2
        refine lv_if_eq (tgt := 65) hx hb d_M_left_48 (by decide) (fun c48 => ?_) (fun c48 => ?_)
        · have h5 : rv g.2.2.2.2.2 i < HW := by
            apply Classical.byContradiction
            intro w
            rw [q2, if_pos (by have := htop.mpr (by omega); omega)] at c48
            exact absurd c48 (by decide)
          refine lv_lload hx hb d_M_left_65 (lv_at hl 3 rfl) ?_
          exact m_lret hx hb hr hlocks hsz hU ⟨f, rfl, h1, h2, by
            rw [t0, hI, sv, if_pos h5, Int.natAbs_natCast]; rfl⟩ d_M_left_67
        · have h5 : ¬ rv g.2.2.2.2.2 i < HW := by
            intro w
            exact c48 (by rw [q2, if_neg (fun q => by have := htop.mp (by omega); omega)])
          have hsv : sv g.2.2.2.2.2 i = -(((sv g.2.2.2.2.2 i).natAbs : Nat) : Int) := neg_abs (sv_np h5 hrl)
          refine lv_lload hx hb d_M_left_51 (lv_at hl 3 rfl) ?_
          refine lv_lconst (v := 0) hx hb d_M_left_53 (by decide) ?_
          refine W.lcmp hx hb d_M_left_54 ?_
          refine lv_if_le (tgt := 65) hx hb d_M_left_55 (by decide) (fun c55 => ?_) (fun c55 => ?_)
          · have h55 : rs = 0 := by
              have q := (lg_cmp_le _ _).mp c55
              rw [Int64.le_iff_toInt_le, Int64.toInt_zero, t0] at q
              omega
            refine lv_lload hx hb d_M_left_65 (lv_at hl 3 rfl) ?_
            exact m_lret hx hb hr hlocks hsz hU ⟨f, rfl, h1, h2, by
              rw [t0, h55, hsv]; exact (neg_mod0 (by omega)).symm⟩ d_M_left_67
          · have h55 : 0 < rs := by
              have q : ¬ lN rs ≤ 0 := fun q => c55 ((lg_cmp_le _ _).mpr q)
              rw [Int64.le_iff_toInt_le, Int64.toInt_zero, t0] at q
              omega
            refine lv_lload_n hx hb d_M_left_58 rfl (lv_at hl 2 rfl) ?_
            refine lv_lload hx hb d_M_left_59 (lv_at hl 3 rfl) ?_
            refine lv_lsub hx hb d_M_left_61 ?_
            refine lv_topl (fun x61 ex61 => ?_)
            refine lv_goto (tgt := 67) hx hb d_M_left_62 (by decide) ?_
            have t61 : x61.toInt = (M : Int) - (rs : Int) := by
              have tM : (lN M).toInt = (M : Int) := pk_lT (by omega)
              rw [ex61, Jvm.Kit.i64_sub] <;> rw [tM, t0] <;> omega
            exact m_lret hx hb hr hlocks hsz hU ⟨f, rfl, h1, h2, by
              rw [t61, hI, hsv, Int.natAbs_neg, Int.natAbs_natCast]; exact (neg_mod1 hM0 (by omega)).symm⟩ d_M_left_67
      · exact absurd (by decide) c14
    | succ q ih =>
      intro N f rs H locs ls hq hN h1 h2 h3 h4 hI hU hl
      rw [nI_pred] at hl
      have hlt : rs < M := by rw [hI]; exact Nat.mod_lt _ hM0
      refine lv_iload hx hb d_M_left_12 (lv_at hl 4 rfl) ?_
      refine lv_if_lt (tgt := 43) hx hb d_M_left_14 (by decide) (fun c14 => ?_) (fun c14 => ?_)
      · exact absurd c14 (nI_pos (by omega))
      · refine lv_lload hx hb d_M_left_17 (lv_at hl 3 rfl) ?_
        refine lv_ldc2 (v := 65536) hx hb hown (hts _ k_M_132) d_M_left_19 ?_
        refine lv_lmul hx hb d_M_left_22 ?_
        refine lv_topl (fun x22 ex22 => ?_)
        refine lv_aload_n hx hb d_M_left_23 rfl (lv_at hl 0 rfl) ?_
        refine lv_bipush (v := 10) hx hb d_M_left_24 (by decide) ?_
        refine lv_iload hx hb d_M_left_26 (lv_at hl 4 rfl) ?_
        refine m_calli (m_run (As := [.int 10, .int (nI q)]) (rest := [.long x22]) hx hb hml hown hts hU (cm_get l z _ (mF g f) (i := 10) (by decide) (k := q) (by omega)) (w_M_get_cw hts k_M_33 rfl rfl ⟨Nat.le_of_ble_eq_true rfl, Nat.le_of_ble_eq_true rfl⟩) (m_recv hU) rfl hl.1 rfl (lv_room (Nat.le_of_ble_eq_true rfl)) d_M_left_28 ⟨Nat.zero_le _, Nat.zero_le _⟩) hU (fun r28 g28 H locs hp hU => ?_)
        obtain ⟨rfl, q28⟩ := hp
        have w1 := h1 (1100 * 10 + q) (by omega)
        have q28 : r28 = nI (wn (f (1100 * 10 + q))) := by rw [q28]; exact (nI_wn _).symm
        refine lv_i2l hx hb d_M_left_31 rfl ?_
        refine lv_topl (fun x31 ex31 => ?_)
        refine lv_ladd hx hb d_M_left_32 ?_
        refine lv_topl (fun x32 ex32 => ?_)
        refine lv_lload_n hx hb d_M_left_33 rfl (lv_at hl 2 rfl) ?_
        have hne34 : ¬ lN M = 0 := fun q => by
          rw [show (0 : Int64) = lN 0 from rfl, pk_lEQ (by omega) (by decide)] at q
          omega
        have e22 : x22 = lN (rs * 65536) := by rw [ex22, show (65536 : Int64) = lN 65536 from rfl, lN_mul]
        have e31 : x31 = lN (wn (f (1100 * 10 + q))) := by rw [ex31, q28]; exact nI_l (by omega)
        have e32 : x32 = lN (rs * 65536 + wn (f (1100 * 10 + q))) := by rw [ex32, e22, e31, lN_add]
        refine lv_lrem hx hb d_M_left_34 hne34 ?_
        refine lv_topl (fun x34 ex34 => ?_)
        refine lv_lstore (lv' := [(4, .long x34), (0, .ref (oM z)), (1, .int (nI i)), (2, .long (lN M)), (6, .int (nI q))]) hx hb d_M_left_35 hl (by decide) rfl (fun ls hl => ?_)
        obtain ⟨x37, ex37⟩ : ∃ y : Int32, y = (nI q) + Int32.ofInt (-1) := ⟨_, rfl⟩
        refine lv_iinc (v := x37) (lv' := [(6, .int x37), (4, .long x34), (0, .ref (oM z)), (1, .int (nI i)), (2, .long (lN M))]) hx hb d_M_left_37 hl (k := 4) rfl (by rw [ex37]) (by decide) rfl (fun ls hl => ?_)
        refine lv_goto (tgt := 12) hx hb d_M_left_40 (by decide) ?_
        have e34 : x34 = lN ((rs * 65536 + wn (f (1100 * 10 + q))) % M) := by rw [ex34, e32]; exact pk_lRem (by omega) hM0 (by omega)
        rw [e34, ex37, show Int32.ofInt (-1) = -1 from rfl, ← Int32.sub_eq_add_neg] at hl
        exact ih N f _ _ _ ls (by omega) hN h1 h2 h3 h4 (by rw [hI]; exact dv_divw (by decide) h1 hN (by omega)) hU (lv_sub hl [2, 3, 4, 1, 0] rfl)
  refine lv_lconst (v := 0) hx hb d_M_left_0 (by decide) ?_
  refine lv_lstore (lv' := [(4, .long 0), (0, .ref (oM z)), (1, .int (nI i)), (2, .long (lN M))]) hx hb d_M_left_1 hl (by decide) rfl (fun ls hl => ?_)
  refine lv_aload_n hx hb d_M_left_3 rfl (lv_at hl 1 rfl) ?_
  refine lv_iload_n hx hb d_M_left_4 rfl (lv_at hl 2 rfl) ?_
  refine m_calli (m_run (As := [.int (nI i)]) (rest := []) hx hb hml hown hts hU (cm_sized l z _ g hi hok) (w_M_sized_cw hts k_M_129 rfl rfl ⟨Nat.le_of_ble_eq_true rfl, Nat.le_of_ble_eq_true rfl⟩) (m_recv hU) rfl hl.1 rfl (lv_room (Nat.le_of_ble_eq_true rfl)) d_M_left_5 ⟨Nat.zero_le _, Nat.zero_le _⟩) hU (fun r5 g5 H locs hp hU => ?_)
  obtain ⟨f, n, rfl, k1, k2, k3, k4, k5, k6, k7⟩ := hp
  refine lv_iconst (v := 1) hx hb d_M_left_8 (by decide) ?_
  refine lv_isub hx hb d_M_left_9 ?_
  refine lv_topi (fun x9 ex9 => ?_)
  refine lv_istore (lv' := [(6, .int x9), (4, .long 0), (0, .ref (oM z)), (1, .int (nI i)), (2, .long (lN M))]) hx hb d_M_left_10 hl (by decide) rfl (fun ls hl => ?_)
  rw [ex9, k4] at hl
  exact K n n f 0 _ _ ls (Nat.le_refl n) k5 k1 k2 k3 (dv_zero k5 k6) (by rw [dv_hi (by decide) k1 k5 (Nat.le_refl n), Nat.zero_mod]) hU (lv_sub hl [2, 3, 4, 1, 0] rfl)
end
section
/-! UnitFinderModel: matrices, the automorph -/
set_option maxHeartbeats 4000000 in
set_option maxRecDepth 100000 in
theorem cm_times (l : Launch) (z : YM) (sz : Nat) (g : SM) {M a b c9 e9 n0 n1 n2 n3 : Nat} (hM0 : 0 < M) (hM : M < 2 ^ 31) (ha : a < M) (hb9 : b < M) (hc : c9 < M) (he : e9 < M) (h0 : n0 < M) (h1 : n1 < M) (h2 : n2 < M) (h3 : n3 < M) (q0 : g.2.2.2.2.1 0 = lN n0) (q1 : g.2.2.2.2.1 1 = lN n1) (q2 : g.2.2.2.2.1 2 = lN n2) (q3 : g.2.2.2.2.1 3 = lN n3) : Met l y_M_times (zw y_M_times b_M_times 19 none) { frames := 0, cells := 0, slots := 0, locals := 0 } (va_Pc [.ref (oM z), .long (lN a), .long (lN b), .long (lN c9), .long (lN e9), .long (lN M)] (mI z g sz)) (va_Qv (fun g2 => g2 = mX (mX (mX (mX g 0 (lN ((n0 * a + n1 * c9) % M))) 1 (lN ((n0 * b + n1 * e9) % M))) 2 (lN ((n2 * a + n3 * c9) % M))) 3 (lN ((n2 * b + n3 * e9) % M))) (mO z sz) (yA z sz)) 0 0 (yA z sz) := by
  refine m_ofW (by decide) (Nat.le_of_ble_eq_true rfl) (fun p e s m below meth c hx hb hr hml hown hts hlocks hname hsz ls hU hl => ?_)
  have hl : lv_has ls 19 [(0, .ref (oM z)), (1, .long (lN a)), (3, .long (lN b)), (5, .long (lN c9)), (7, .long (lN e9)), (9, .long (lN M))] := hl
  have hne : ∀ x : Int64, x = lN M → ¬ x = 0 := fun x hx q => by
    rw [hx, show (0 : Int64) = lN 0 from rfl, pk_lEQ (by omega) (by decide)] at q
    omega
  have hP : ∀ (u v : Nat) (y : Int64), u < M → v < M → y = lN u * lN v - lN u * lN v / lN M * lN M → y = lN (u * v % M) := fun u v y hu hv hy => by
    rw [hy, lN_mul]
    have : u * v ≤ 2147483648 * 2147483648 := Nat.mul_le_mul (by omega) (by omega)
    exact pk_lRem (by omega) hM0 (by omega)
  have hQ : ∀ (u v w t : Nat) (y : Int64), y = (lN (u * v % M) + lN (w * t % M)) - (lN (u * v % M) + lN (w * t % M)) / lN M * lN M → y = lN ((u * v + w * t) % M) := fun u v w t y hy => by
    have m1 := Nat.mod_lt (u * v) hM0
    have m2 := Nat.mod_lt (w * t) hM0
    rw [hy, lN_add, pk_lRem (by omega) hM0 (by omega), ← Nat.add_mod]
  have hne8 : ¬ lN M = 0 := hne _ rfl
  have hne18 := hne8
  have hne22 := hne8
  have hne33 := hne8
  have hne43 := hne8
  have hne47 := hne8
  have hne58 := hne8
  have hne68 := hne8
  have hne72 := hne8
  have hne83 := hne8
  have hne93 := hne8
  have hne97 := hne8
  have hne20 := hne8
  have hne31 := hne8
  have hne45 := hne8
  have hne56 := hne8
  have hne70 := hne8
  have hne81 := hne8
  have hne95 := hne8
  have hne16 := hne8
  have hne41 := hne8
  have hne66 := hne8
  have hne91 := hne8
  refine lv_aload_n hx hb d_M_times_0 rfl (lv_at hl 0 rfl) ?_
  refine va_get (D := z.1) (ci := 3) (v := .long (g.2.2.2.2.1 0)) (C := R_M) (T := F_M) (N := 9) hx hb hts in_M hown hU.2.1 hU.1 0 rfl rfl 5 (by decide) (hts _ k_M_103) (fun _ h9 => h9) rfl d_M_times_1 ?_
  refine lv_topl (fun x1 ex1 => ?_)
  refine lv_lload_n hx hb d_M_times_4 rfl (lv_at hl 1 rfl) ?_
  refine lv_lmul hx hb d_M_times_5 ?_
  refine lv_topl (fun x5 ex5 => ?_)
  refine lv_lload hx hb d_M_times_6 (lv_at hl 5 rfl) ?_
  refine lv_lrem hx hb d_M_times_8 hne8 ?_
  refine lv_topl (fun x8 ex8 => ?_)
  refine lv_aload_n hx hb d_M_times_9 rfl (lv_at hl 0 rfl) ?_
  refine va_get (D := z.1) (ci := 3) (v := .long (g.2.2.2.2.1 1)) (C := R_M) (T := F_M) (N := 9) hx hb hts in_M hown hU.2.1 hU.1 0 rfl rfl 6 (by decide) (hts _ k_M_106) (fun _ h9 => h9) rfl d_M_times_10 ?_
  refine lv_topl (fun x10 ex10 => ?_)
  refine lv_lload hx hb d_M_times_13 (lv_at hl 3 rfl) ?_
  refine lv_lmul hx hb d_M_times_15 ?_
  refine lv_topl (fun x15 ex15 => ?_)
  refine lv_lload hx hb d_M_times_16 (lv_at hl 5 rfl) ?_
  refine lv_lrem hx hb d_M_times_18 hne18 ?_
  refine lv_topl (fun x18 ex18 => ?_)
  refine lv_ladd hx hb d_M_times_19 ?_
  refine lv_topl (fun x19 ex19 => ?_)
  refine lv_lload hx hb d_M_times_20 (lv_at hl 5 rfl) ?_
  refine lv_lrem hx hb d_M_times_22 hne22 ?_
  refine lv_topl (fun x22 ex22 => ?_)
  refine lv_lstore (lv' := [(11, .long x22), (0, .ref (oM z)), (1, .long (lN a)), (3, .long (lN b)), (5, .long (lN c9)), (7, .long (lN e9)), (9, .long (lN M))]) hx hb d_M_times_23 hl (by decide) rfl (fun ls hl => ?_)
  refine lv_aload_n hx hb d_M_times_25 rfl (lv_at hl 1 rfl) ?_
  refine va_get (D := z.1) (ci := 3) (v := .long (g.2.2.2.2.1 0)) (C := R_M) (T := F_M) (N := 9) hx hb hts in_M hown hU.2.1 hU.1 0 rfl rfl 5 (by decide) (hts _ k_M_103) (fun _ h9 => h9) rfl d_M_times_26 ?_
  refine lv_topl (fun x26 ex26 => ?_)
  refine lv_lload_n hx hb d_M_times_29 rfl (lv_at hl 3 rfl) ?_
  refine lv_lmul hx hb d_M_times_30 ?_
  refine lv_topl (fun x30 ex30 => ?_)
  refine lv_lload hx hb d_M_times_31 (lv_at hl 6 rfl) ?_
  refine lv_lrem hx hb d_M_times_33 hne33 ?_
  refine lv_topl (fun x33 ex33 => ?_)
  refine lv_aload_n hx hb d_M_times_34 rfl (lv_at hl 1 rfl) ?_
  refine va_get (D := z.1) (ci := 3) (v := .long (g.2.2.2.2.1 1)) (C := R_M) (T := F_M) (N := 9) hx hb hts in_M hown hU.2.1 hU.1 0 rfl rfl 6 (by decide) (hts _ k_M_106) (fun _ h9 => h9) rfl d_M_times_35 ?_
  refine lv_topl (fun x35 ex35 => ?_)
  refine lv_lload hx hb d_M_times_38 (lv_at hl 5 rfl) ?_
  refine lv_lmul hx hb d_M_times_40 ?_
  refine lv_topl (fun x40 ex40 => ?_)
  refine lv_lload hx hb d_M_times_41 (lv_at hl 6 rfl) ?_
  refine lv_lrem hx hb d_M_times_43 hne43 ?_
  refine lv_topl (fun x43 ex43 => ?_)
  refine lv_ladd hx hb d_M_times_44 ?_
  refine lv_topl (fun x44 ex44 => ?_)
  refine lv_lload hx hb d_M_times_45 (lv_at hl 6 rfl) ?_
  refine lv_lrem hx hb d_M_times_47 hne47 ?_
  refine lv_topl (fun x47 ex47 => ?_)
  refine lv_lstore (lv' := [(13, .long x47), (11, .long x22), (0, .ref (oM z)), (1, .long (lN a)), (3, .long (lN b)), (5, .long (lN c9)), (7, .long (lN e9)), (9, .long (lN M))]) hx hb d_M_times_48 hl (by decide) rfl (fun ls hl => ?_)
  refine lv_aload_n hx hb d_M_times_50 rfl (lv_at hl 2 rfl) ?_
  refine va_get (D := z.1) (ci := 3) (v := .long (g.2.2.2.2.1 2)) (C := R_M) (T := F_M) (N := 9) hx hb hts in_M hown hU.2.1 hU.1 0 rfl rfl 7 (by decide) (hts _ k_M_109) (fun _ h9 => h9) rfl d_M_times_51 ?_
  refine lv_topl (fun x51 ex51 => ?_)
  refine lv_lload_n hx hb d_M_times_54 rfl (lv_at hl 3 rfl) ?_
  refine lv_lmul hx hb d_M_times_55 ?_
  refine lv_topl (fun x55 ex55 => ?_)
  refine lv_lload hx hb d_M_times_56 (lv_at hl 7 rfl) ?_
  refine lv_lrem hx hb d_M_times_58 hne58 ?_
  refine lv_topl (fun x58 ex58 => ?_)
  refine lv_aload_n hx hb d_M_times_59 rfl (lv_at hl 2 rfl) ?_
  refine va_get (D := z.1) (ci := 3) (v := .long (g.2.2.2.2.1 3)) (C := R_M) (T := F_M) (N := 9) hx hb hts in_M hown hU.2.1 hU.1 0 rfl rfl 8 (by decide) (hts _ k_M_112) (fun _ h9 => h9) rfl d_M_times_60 ?_
  refine lv_topl (fun x60 ex60 => ?_)
  refine lv_lload hx hb d_M_times_63 (lv_at hl 5 rfl) ?_
  refine lv_lmul hx hb d_M_times_65 ?_
  refine lv_topl (fun x65 ex65 => ?_)
  refine lv_lload hx hb d_M_times_66 (lv_at hl 7 rfl) ?_
  refine lv_lrem hx hb d_M_times_68 hne68 ?_
  refine lv_topl (fun x68 ex68 => ?_)
  refine lv_ladd hx hb d_M_times_69 ?_
  refine lv_topl (fun x69 ex69 => ?_)
  refine lv_lload hx hb d_M_times_70 (lv_at hl 7 rfl) ?_
  refine lv_lrem hx hb d_M_times_72 hne72 ?_
  refine lv_topl (fun x72 ex72 => ?_)
  refine lv_lstore (lv' := [(15, .long x72), (13, .long x47), (11, .long x22), (0, .ref (oM z)), (1, .long (lN a)), (3, .long (lN b)), (5, .long (lN c9)), (7, .long (lN e9)), (9, .long (lN M))]) hx hb d_M_times_73 hl (by decide) rfl (fun ls hl => ?_)
  refine lv_aload_n hx hb d_M_times_75 rfl (lv_at hl 3 rfl) ?_
  refine va_get (D := z.1) (ci := 3) (v := .long (g.2.2.2.2.1 2)) (C := R_M) (T := F_M) (N := 9) hx hb hts in_M hown hU.2.1 hU.1 0 rfl rfl 7 (by decide) (hts _ k_M_109) (fun _ h9 => h9) rfl d_M_times_76 ?_
  refine lv_topl (fun x76 ex76 => ?_)
  refine lv_lload_n hx hb d_M_times_79 rfl (lv_at hl 5 rfl) ?_
  refine lv_lmul hx hb d_M_times_80 ?_
  refine lv_topl (fun x80 ex80 => ?_)
  refine lv_lload hx hb d_M_times_81 (lv_at hl 8 rfl) ?_
  refine lv_lrem hx hb d_M_times_83 hne83 ?_
  refine lv_topl (fun x83 ex83 => ?_)
  refine lv_aload_n hx hb d_M_times_84 rfl (lv_at hl 3 rfl) ?_
  refine va_get (D := z.1) (ci := 3) (v := .long (g.2.2.2.2.1 3)) (C := R_M) (T := F_M) (N := 9) hx hb hts in_M hown hU.2.1 hU.1 0 rfl rfl 8 (by decide) (hts _ k_M_112) (fun _ h9 => h9) rfl d_M_times_85 ?_
  refine lv_topl (fun x85 ex85 => ?_)
  refine lv_lload hx hb d_M_times_88 (lv_at hl 7 rfl) ?_
  refine lv_lmul hx hb d_M_times_90 ?_
  refine lv_topl (fun x90 ex90 => ?_)
  refine lv_lload hx hb d_M_times_91 (lv_at hl 8 rfl) ?_
  refine lv_lrem hx hb d_M_times_93 hne93 ?_
  refine lv_topl (fun x93 ex93 => ?_)
  refine lv_ladd hx hb d_M_times_94 ?_
  refine lv_topl (fun x94 ex94 => ?_)
  refine lv_lload hx hb d_M_times_95 (lv_at hl 8 rfl) ?_
  refine lv_lrem hx hb d_M_times_97 hne97 ?_
  refine lv_topl (fun x97 ex97 => ?_)
  refine lv_lstore (lv' := [(17, .long x97), (15, .long x72), (13, .long x47), (11, .long x22), (0, .ref (oM z)), (1, .long (lN a)), (3, .long (lN b)), (5, .long (lN c9)), (7, .long (lN e9)), (9, .long (lN M))]) hx hb d_M_times_98 hl (by decide) rfl (fun ls hl => ?_)
  refine lv_aload_n hx hb d_M_times_100 rfl (lv_at hl 4 rfl) ?_
  refine lv_lload hx hb d_M_times_101 (lv_at hl 3 rfl) ?_
  refine mp_X0 hx hb hts hown hU (hts _ k_M_103) d_M_times_103 (fun H locs hU => ?_)
  generalize eg103 : mX g 0 x22 = g103 at hU
  refine lv_aload_n hx hb d_M_times_106 rfl (lv_at hl 4 rfl) ?_
  refine lv_lload hx hb d_M_times_107 (lv_at hl 2 rfl) ?_
  refine mp_X1 hx hb hts hown hU (hts _ k_M_106) d_M_times_109 (fun H locs hU => ?_)
  generalize eg109 : mX g103 1 x47 = g109 at hU
  refine lv_aload_n hx hb d_M_times_112 rfl (lv_at hl 4 rfl) ?_
  refine lv_lload hx hb d_M_times_113 (lv_at hl 1 rfl) ?_
  refine mp_X2 hx hb hts hown hU (hts _ k_M_109) d_M_times_115 (fun H locs hU => ?_)
  generalize eg115 : mX g109 2 x72 = g115 at hU
  refine lv_aload_n hx hb d_M_times_118 rfl (lv_at hl 4 rfl) ?_
  refine lv_lload hx hb d_M_times_119 (lv_at hl 0 rfl) ?_
  refine mp_X3 hx hb hts hown hU (hts _ k_M_112) d_M_times_121 (fun H locs hU => ?_)
  generalize eg121 : mX g115 3 x97 = g121 at hU
  have r8 : x8 = lN (n0 * a % M) := hP n0 a x8 h0 ha (by rw [ex8, ex5, ex1, q0])
  have r18 : x18 = lN (n1 * c9 % M) := hP n1 c9 x18 h1 hc (by rw [ex18, ex15, ex10, q1])
  have r22 : x22 = lN ((n0 * a + n1 * c9) % M) := hQ n0 a n1 c9 x22 (by rw [ex22, ex19, r8, r18])
  have r33 : x33 = lN (n0 * b % M) := hP n0 b x33 h0 hb9 (by rw [ex33, ex30, ex26, q0])
  have r43 : x43 = lN (n1 * e9 % M) := hP n1 e9 x43 h1 he (by rw [ex43, ex40, ex35, q1])
  have r47 : x47 = lN ((n0 * b + n1 * e9) % M) := hQ n0 b n1 e9 x47 (by rw [ex47, ex44, r33, r43])
  have r58 : x58 = lN (n2 * a % M) := hP n2 a x58 h2 ha (by rw [ex58, ex55, ex51, q2])
  have r68 : x68 = lN (n3 * c9 % M) := hP n3 c9 x68 h3 hc (by rw [ex68, ex65, ex60, q3])
  have r72 : x72 = lN ((n2 * a + n3 * c9) % M) := hQ n2 a n3 c9 x72 (by rw [ex72, ex69, r58, r68])
  have r83 : x83 = lN (n2 * b % M) := hP n2 b x83 h2 hb9 (by rw [ex83, ex80, ex76, q2])
  have r93 : x93 = lN (n3 * e9 % M) := hP n3 e9 x93 h3 he (by rw [ex93, ex90, ex85, q3])
  have r97 : x97 = lN ((n2 * b + n3 * e9) % M) := hQ n2 b n3 e9 x97 (by rw [ex97, ex94, r83, r93])
  exact m_vret hx hb hr hlocks hsz hU (by rw [← eg121, ← eg115, ← eg109, ← eg103, r22, r47, r72, r97]) d_M_times_124
  theorem comb_core {Q H R Ri Rj Si Sj x y : Int} (hQ : Q = 2 * H) (hH : 0 < H) (ai bj : Int) (hi : Ri = Si + Q * ai) (hj : Rj = Sj + Q * bj) (h : R = (x * Ri + y * Rj) % Q) (h1 : -H ≤ x * Si + y * Sj) (h2 : x * Si + y * Sj < H) : (if R < H then R else R - Q) = x * Si + y * Sj := by
    have e : x * Ri + y * Rj = (x * Si + y * Sj) + Q * (x * ai + y * bj) := by
      rw [hi, hj, Int.mul_add, Int.mul_add, Int.mul_add]
      have a1 : x * (Q * ai) = Q * (x * ai) := by ac_rfl
      have a2 : y * (Q * bj) = Q * (y * bj) := by ac_rfl
      omega
    rw [e, Int.add_mul_emod_self_left] at h
    generalize x * Si + y * Sj = S at h h1 h2
    rcases Int.lt_or_le S 0 with q | q
    · have e2 : S % Q = S + Q := by
        rw [← Int.add_mul_emod_self_left S Q 1, Int.mul_one]
        exact Int.emod_eq_of_lt (by omega) (by omega)
      rw [h, e2, if_neg (by omega)]
      omega
    · have e2 : S % Q = S := Int.emod_eq_of_lt q (by omega)
      rw [h, e2, if_pos h2]
  theorem HW_pos : 0 < HW := by rw [HW_def]; exact Nat.mul_pos (by decide) (Nat.pow_pos (by decide))
  theorem rv_sv (f : Nat → Int32) (i : Nat) : ∃ a : Int, (rv f i : Int) = sv f i + (WW : Int) * a := by
    unfold sv
    generalize (WW : Int) = Q
    split
    · exact ⟨0, by omega⟩
    · exact ⟨1, by omega⟩
  theorem sv_comb {f F : Nat → Int32} {to i j : Nat} {x y : Int} (h : (rv f to : Int) = (x * (rv F i : Int) + y * (rv F j : Int)) % (WW : Int)) (h1 : -(HW : Int) ≤ x * sv F i + y * sv F j) (h2 : x * sv F i + y * sv F j < (HW : Int)) : sv f to = x * sv F i + y * sv F j := by
    obtain ⟨a, ea⟩ := rv_sv F i
    obtain ⟨b, eb⟩ := rv_sv F j
    have hQ : (WW : Int) = 2 * (HW : Int) := by rw [HW_2]; exact Int.natCast_mul 2 HW
    have hp : (0 : Int) < (HW : Int) := Int.ofNat_lt.mpr HW_pos
    have key := comb_core hQ hp a b ea eb h h1 h2
    rw [← key]
    unfold sv
    by_cases q : rv f to < HW
    · rw [if_pos q, if_pos (Int.ofNat_lt.mpr q)]
    · rw [if_neg q, if_neg (fun w => q (Int.ofNat_lt.mp w))]
  theorem half_core {Q H R R2 : Int} (hQ : Q = 2 * H) (h0 : 0 ≤ R) (h1 : R < Q) (h : R2 = (R + (if H ≤ R then 1 else 0) * Q) / 2) : (if R2 < H then R2 else R2 - Q) = (if R < H then R else R - Q) / 2 := by
    by_cases q : H ≤ R
    · rw [if_pos q] at h
      rw [if_neg (show ¬ R < H by omega), if_neg (show ¬ R2 < H by omega)]
      omega
    · rw [if_neg q] at h
      rw [if_pos (show R < H by omega), if_pos (show R2 < H by omega)]
      omega
  theorem sv_half {f F : Nat → Int32} {i : Nat} (hi : i < 11) (hok : dgOk F) (h : rv f i = (rv F i + (if 32767 < wn (F (1100 * i + 1099)) then 1 else 0) * WW) / 2) : sv f i = sv F i / 2 := by
    have hQ : (WW : Int) = 2 * (HW : Int) := by rw [HW_2]; exact Int.natCast_mul 2 HW
    have hl : (rv F i : Int) < (WW : Int) := Int.ofNat_lt.mpr (rv_lt hi hok)
    have h2 : (rv f i : Int) = ((rv F i : Int) + (if (HW : Int) ≤ (rv F i : Int) then 1 else 0) * (WW : Int)) / 2 := by
      rw [h]
      have ht := top_iff hi hok
      by_cases q : HW ≤ rv F i
      · rw [if_pos (ht.mpr q), if_pos (Int.ofNat_le.mpr q), Nat.one_mul, Int.one_mul]
        rfl
      · rw [if_neg (fun w => q (ht.mp w)), if_neg (fun w => q (Int.ofNat_le.mp w)), Nat.zero_mul, Int.zero_mul]
        rfl
    have key := half_core hQ (Int.natCast_nonneg _) hl h2
    unfold sv
    by_cases q : rv f i < HW
    · rw [if_pos q]; rw [if_pos (Int.ofNat_lt.mpr q)] at key; rw [key]
      by_cases w : rv F i < HW
      · rw [if_pos w, if_pos (Int.ofNat_lt.mpr w)]
      · rw [if_neg w, if_neg (fun v => w (Int.ofNat_lt.mp v))]
    · rw [if_neg q]; rw [if_neg (fun v => q (Int.ofNat_lt.mp v))] at key; rw [key]
      by_cases w : rv F i < HW
      · rw [if_pos w, if_pos (Int.ofNat_lt.mpr w)]
      · rw [if_neg w, if_neg (fun v => w (Int.ofNat_lt.mp v))]
  /-- far above all numbers that come, far below what rows hold -/
  noncomputable def BB : Nat := Classical.choose (⟨2 ^ 16000, rfl⟩ : ∃ n : Nat, n = 2 ^ 16000)
  theorem BB_def : BB = 2 ^ 16000 := Classical.choose_spec (⟨2 ^ 16000, rfl⟩ : ∃ n : Nat, n = 2 ^ 16000)
  theorem BB_HW : 4294967296 * BB ≤ HW := by rw [BB_def, HW_def]; decide +kernel
  theorem BB_MM : 4294967296 * BB ≤ MM := by rw [BB_def]; decide +kernel
  theorem BB_pos : 0 < BB := by rw [BB_def]; exact Nat.pow_pos (by decide)
  theorem tu_bd {t u : Nat} {k : Int} (ht : t < BB) (hu : u < BB) (h1 : -2147483648 ≤ k) (h2 : k ≤ 2147483648) : -(HW : Int) ≤ (t : Int) + k * (u : Int) ∧ (t : Int) + k * (u : Int) < (HW : Int) ∧ -(HW : Int) ≤ k * (u : Int) ∧ k * (u : Int) < (HW : Int) := by
    have e1 : k * (u : Int) ≤ 2147483648 * (u : Int) := Int.mul_le_mul_of_nonneg_right h2 (Int.natCast_nonneg _)
    have e2 : -2147483648 * (u : Int) ≤ k * (u : Int) := Int.mul_le_mul_of_nonneg_right h1 (Int.natCast_nonneg _)
    have hb : (4294967296 : Int) * (BB : Int) ≤ (HW : Int) := by
      have := Int.ofNat_le.mpr BB_HW
      rw [Int.natCast_mul] at this
      exact this
    have h3 : (t : Int) < (BB : Int) := Int.ofNat_lt.mpr ht
    have h4 : (u : Int) < (BB : Int) := Int.ofNat_lt.mpr hu
    generalize (BB : Int) = X at hb h3 h4
    generalize (HW : Int) = Y at hb
    generalize k * (u : Int) = Z at e1 e2
    have h5 : 0 ≤ (u : Int) := Int.natCast_nonneg _
    have h6 : 0 ≤ (t : Int) := Int.natCast_nonneg _
    refine ⟨by omega, by omega, by omega, by omega⟩
set_option maxHeartbeats 4000000 in
set_option maxRecDepth 100000 in
theorem cm_turn (l : Launch) (z : YM) (sz : Nat) (g : SM) {t u : Nat} (ht : t < BB) (hu : u < BB) {a b c9 : Int64} (a1 : -2147483648 ≤ a.toInt) (a2 : a.toInt ≤ 2147483648) (b1 : -2147483648 ≤ b.toInt) (b2 : b.toInt ≤ 2147483648) (c1 : -2147483648 ≤ c9.toInt) (c2 : c9.toInt ≤ 2147483648) (hok : dgOk g.2.2.2.2.2) (h0 : sv g.2.2.2.2.2 0 = (t : Int)) (h1 : sv g.2.2.2.2.2 1 = (u : Int)) : Met l y_M_turn (zw y_M_turn b_M_turn 7 none) { frames := 2, cells := 0, slots := 0, locals := 55 } (va_Pc [.ref (oM z), .long a, .long b, .long c9] (mI z g sz)) (va_Qv (fun g2 => ∃ f, g2 = mF g f ∧ dgOk f ∧ (∀ q, (q < 2200 ∨ 6600 ≤ q) → f q = g.2.2.2.2.2 q) ∧ sv f 2 = ((t : Int) - b.toInt * u) / 2 ∧ sv f 3 = -c9.toInt * u ∧ sv f 4 = a.toInt * u ∧ sv f 5 = ((t : Int) + b.toInt * u) / 2) (mO z sz) (yA z sz)) 0 0 (yA z sz) := by
  refine m_ofW (by decide) (Nat.le_of_ble_eq_true rfl) (fun p e s m below meth c hx hb hr hml hown hts hlocks hname hsz ls hU hl => ?_)
  have hl : lv_has ls 7 [(0, .ref (oM z)), (1, .long a), (3, .long b), (5, .long c9)] := hl
  obtain ⟨F, eF⟩ : ∃ y, y = g.2.2.2.2.2 := ⟨_, rfl⟩
  rw [← eF] at hok h0 h1
  refine lv_aload_n hx hb d_M_turn_0 rfl (lv_at hl 0 rfl) ?_
  refine lv_iconst (v := 2) hx hb d_M_turn_1 (by decide) ?_
  refine lv_lconst (v := 1) hx hb d_M_turn_2 (by decide) ?_
  refine lv_iconst (v := 0) hx hb d_M_turn_3 (by decide) ?_
  refine lv_lload_n hx hb d_M_turn_4 rfl (lv_at hl 2 rfl) ?_
  refine lv_lneg hx hb d_M_turn_5 ?_
  refine lv_topl (fun x5 ex5 => ?_)
  refine lv_iconst (v := 1) hx hb d_M_turn_6 (by decide) ?_
  have t5 : x5.toInt = -b.toInt := by rw [ex5]; exact Jvm.Kit.i64_neg (by omega)
  refine m_callv (m_run (As := [.int 2, .long 1, .int 0, .long x5, .int 1]) (rest := []) hx hb hml hown hts hU (cm_combine l z _ g (to := 2) (i := 0) (j := 1) (by decide) (by decide) (by decide) (x := 1) (y := x5) (by decide) (by decide) (by omega) (by omega) (by rw [← eF]; exact hok)) (w_M_combine_cw hts k_M_69 rfl rfl ⟨Nat.le_of_ble_eq_true rfl, Nat.le_of_ble_eq_true rfl⟩) (m_recv hU) rfl hl.1 rfl (lv_room (Nat.le_of_ble_eq_true rfl)) d_M_turn_7 ⟨Nat.zero_le _, Nat.zero_le _⟩) hU (fun g7 H locs hp hU => ?_)
  obtain ⟨f1, rfl, k1, k2, k3⟩ := hp
  rw [← eF] at k2 k3
  have bd1 := tu_bd ht hu (k := x5.toInt) (by omega) (by omega)
  have s1 := sv_comb k3 (by rw [h0, h1, show (1 : Int64).toInt = 1 from rfl, Int.one_mul]; exact bd1.1) (by rw [h0, h1, show (1 : Int64).toInt = 1 from rfl, Int.one_mul]; exact bd1.2.1)
  rw [h0, h1, show (1 : Int64).toInt = 1 from rfl, Int.one_mul, t5] at s1
  refine lv_aload_n hx hb d_M_turn_10 rfl (lv_at hl 0 rfl) ?_
  refine lv_iconst (v := 2) hx hb d_M_turn_11 (by decide) ?_
  refine m_callv (m_run (As := [.int 2]) (rest := []) hx hb hml hown hts hU (cm_halve l z _ (mF g f1) (i := 2) (by decide) k1) (w_M_halve_cw hts k_M_80 rfl rfl ⟨Nat.le_of_ble_eq_true rfl, Nat.le_of_ble_eq_true rfl⟩) (m_recv hU) rfl hl.1 rfl (lv_room (Nat.le_of_ble_eq_true rfl)) d_M_turn_12 ⟨Nat.zero_le _, Nat.zero_le _⟩) hU (fun g12 H locs hp hU => ?_)
  obtain ⟨f2, rfl, k4, k5, k6⟩ := hp
  have s2 : sv f2 2 = sv f1 2 / 2 := sv_half (by decide) k1 k6
  have k5 : rsm f1 f2 2 := k5
  refine lv_aload_n hx hb d_M_turn_15 rfl (lv_at hl 0 rfl) ?_
  refine lv_iconst (v := 3) hx hb d_M_turn_16 (by decide) ?_
  refine lv_lload hx hb d_M_turn_17 (lv_at hl 3 rfl) ?_
  refine lv_lneg hx hb d_M_turn_19 ?_
  refine lv_topl (fun x19 ex19 => ?_)
  refine lv_iconst (v := 1) hx hb d_M_turn_20 (by decide) ?_
  refine lv_lconst (v := 0) hx hb d_M_turn_21 (by decide) ?_
  refine lv_iconst (v := 1) hx hb d_M_turn_22 (by decide) ?_
  have t19 : x19.toInt = -c9.toInt := by rw [ex19]; exact Jvm.Kit.i64_neg (by omega)
  refine m_callv (m_run (As := [.int 3, .long x19, .int 1, .long 0, .int 1]) (rest := []) hx hb hml hown hts hU (cm_combine l z _ (mF g f2) (to := 3) (i := 1) (j := 1) (by decide) (by decide) (by decide) (x := x19) (y := 0) (by omega) (by omega) (by decide) (by decide) k4) (w_M_combine_cw hts k_M_69 rfl rfl ⟨Nat.le_of_ble_eq_true rfl, Nat.le_of_ble_eq_true rfl⟩) (m_recv hU) rfl hl.1 rfl (lv_room (Nat.le_of_ble_eq_true rfl)) d_M_turn_23 ⟨Nat.zero_le _, Nat.zero_le _⟩) hU (fun g23 H locs hp hU => ?_)
  obtain ⟨f3, rfl, k7, k8, k9⟩ := hp
  have k8 : rsm f2 f3 3 := k8
  have k9 : (rv f3 3 : Int) = (x19.toInt * (rv f2 1 : Int) + (0 : Int64).toInt * (rv f2 1 : Int)) % (WW : Int) := k9
  have u2 : sv f2 1 = (u : Int) := by rw [k5.sv (by decide), k2.sv (by decide), h1]
  have bd3 := tu_bd ht hu (k := x19.toInt) (by omega) (by omega)
  have s3 := sv_comb k9 (by rw [u2, show (0 : Int64).toInt = 0 from rfl, Int.zero_mul, Int.add_zero]; exact bd3.2.2.1) (by rw [u2, show (0 : Int64).toInt = 0 from rfl, Int.zero_mul, Int.add_zero]; exact bd3.2.2.2)
  rw [u2, show (0 : Int64).toInt = 0 from rfl, Int.zero_mul, Int.add_zero, t19] at s3
  refine lv_aload_n hx hb d_M_turn_26 rfl (lv_at hl 0 rfl) ?_
  refine lv_iconst (v := 4) hx hb d_M_turn_27 (by decide) ?_
  refine lv_lload_n hx hb d_M_turn_28 rfl (lv_at hl 1 rfl) ?_
  refine lv_iconst (v := 1) hx hb d_M_turn_29 (by decide) ?_
  refine lv_lconst (v := 0) hx hb d_M_turn_30 (by decide) ?_
  refine lv_iconst (v := 1) hx hb d_M_turn_31 (by decide) ?_
  refine m_callv (m_run (As := [.int 4, .long a, .int 1, .long 0, .int 1]) (rest := []) hx hb hml hown hts hU (cm_combine l z _ (mF g f3) (to := 4) (i := 1) (j := 1) (by decide) (by decide) (by decide) (x := a) (y := 0) a1 a2 (by decide) (by decide) k7) (w_M_combine_cw hts k_M_69 rfl rfl ⟨Nat.le_of_ble_eq_true rfl, Nat.le_of_ble_eq_true rfl⟩) (m_recv hU) rfl hl.1 rfl (lv_room (Nat.le_of_ble_eq_true rfl)) d_M_turn_32 ⟨Nat.zero_le _, Nat.zero_le _⟩) hU (fun g32 H locs hp hU => ?_)
  obtain ⟨f4, rfl, l1, l2, l3⟩ := hp
  have l2 : rsm f3 f4 4 := l2
  have l3 : (rv f4 4 : Int) = (a.toInt * (rv f3 1 : Int) + (0 : Int64).toInt * (rv f3 1 : Int)) % (WW : Int) := l3
  have u3 : sv f3 1 = (u : Int) := by rw [k8.sv (by decide), u2]
  have bd4 := tu_bd ht hu (k := a.toInt) a1 a2
  have s4 := sv_comb l3 (by rw [u3, show (0 : Int64).toInt = 0 from rfl, Int.zero_mul, Int.add_zero]; exact bd4.2.2.1) (by rw [u3, show (0 : Int64).toInt = 0 from rfl, Int.zero_mul, Int.add_zero]; exact bd4.2.2.2)
  rw [u3, show (0 : Int64).toInt = 0 from rfl, Int.zero_mul, Int.add_zero] at s4
  refine lv_aload_n hx hb d_M_turn_35 rfl (lv_at hl 0 rfl) ?_
  refine lv_iconst (v := 5) hx hb d_M_turn_36 (by decide) ?_
  refine lv_lconst (v := 1) hx hb d_M_turn_37 (by decide) ?_
  refine lv_iconst (v := 0) hx hb d_M_turn_38 (by decide) ?_
  refine lv_lload_n hx hb d_M_turn_39 rfl (lv_at hl 2 rfl) ?_
  refine lv_iconst (v := 1) hx hb d_M_turn_40 (by decide) ?_
  refine m_callv (m_run (As := [.int 5, .long 1, .int 0, .long b, .int 1]) (rest := []) hx hb hml hown hts hU (cm_combine l z _ (mF g f4) (to := 5) (i := 0) (j := 1) (by decide) (by decide) (by decide) (x := 1) (y := b) (by decide) (by decide) b1 b2 l1) (w_M_combine_cw hts k_M_69 rfl rfl ⟨Nat.le_of_ble_eq_true rfl, Nat.le_of_ble_eq_true rfl⟩) (m_recv hU) rfl hl.1 rfl (lv_room (Nat.le_of_ble_eq_true rfl)) d_M_turn_41 ⟨Nat.zero_le _, Nat.zero_le _⟩) hU (fun g41 H locs hp hU => ?_)
  obtain ⟨f5, rfl, m1, m2, m3⟩ := hp
  have m2 : rsm f4 f5 5 := m2
  have m3 : (rv f5 5 : Int) = ((1 : Int64).toInt * (rv f4 0 : Int) + b.toInt * (rv f4 1 : Int)) % (WW : Int) := m3
  have t4 : sv f4 0 = (t : Int) := by rw [l2.sv (by decide), k8.sv (by decide), k5.sv (by decide), k2.sv (by decide), h0]
  have u4 : sv f4 1 = (u : Int) := by rw [l2.sv (by decide), u3]
  have bd5 := tu_bd ht hu (k := b.toInt) b1 b2
  have s5 := sv_comb m3 (by rw [t4, u4, show (1 : Int64).toInt = 1 from rfl, Int.one_mul]; exact bd5.1) (by rw [t4, u4, show (1 : Int64).toInt = 1 from rfl, Int.one_mul]; exact bd5.2.1)
  rw [t4, u4, show (1 : Int64).toInt = 1 from rfl, Int.one_mul] at s5
  refine lv_aload_n hx hb d_M_turn_44 rfl (lv_at hl 0 rfl) ?_
  refine lv_iconst (v := 5) hx hb d_M_turn_45 (by decide) ?_
  refine m_callv (m_run (As := [.int 5]) (rest := []) hx hb hml hown hts hU (cm_halve l z _ (mF g f5) (i := 5) (by decide) m1) (w_M_halve_cw hts k_M_80 rfl rfl ⟨Nat.le_of_ble_eq_true rfl, Nat.le_of_ble_eq_true rfl⟩) (m_recv hU) rfl hl.1 rfl (lv_room (Nat.le_of_ble_eq_true rfl)) d_M_turn_46 ⟨Nat.zero_le _, Nat.zero_le _⟩) hU (fun g46 H locs hp hU => ?_)
  obtain ⟨f6, rfl, m4, m5, m6⟩ := hp
  have s6 : sv f6 5 = sv f5 5 / 2 := sv_half (by decide) m1 m6
  have m5 : rsm f5 f6 5 := m5
  exact m_vret hx hb hr hlocks hsz hU ⟨f6, rfl, m4, fun q hq => by rw [← eF, m5 q (by omega), m2 q (by omega), l2 q (by omega), k8 q (by omega), k5 q (by omega), k2 q (by omega)], by rw [m5.sv (by decide), m2.sv (by decide), l2.sv (by decide), k8.sv (by decide), s2, s1, Int.neg_mul, ← Int.sub_eq_add_neg], by rw [m5.sv (by decide), m2.sv (by decide), l2.sv (by decide), s3], by rw [m5.sv (by decide), m2.sv (by decide), s4], by rw [s6, s5]⟩ d_M_turn_49
end
section
/-! UnitFinderModel: the walk along the ring -/
/-- the walk in true numbers -/
def wkZ (D r : Nat) : Nat → Nat → Nat → Nat → Nat → Nat → Nat × Nat × Nat
  | 0, _, _, k, L, B => (k, L, B)
  | f + 1, b, c, k, L, B => if c ≤ 1 then (k, L, B) else wkZ D r f (nxB r b c) (nxC D r b c) (k + 1) ((b + r) / (2 * c) * L + B) L
/-- the walk ends within so many steps -/
def wkF (D r : Nat) : Nat → Nat → Nat → Prop
  | 0, _, c => c ≤ 1
  | f + 1, b, c => c ≤ 1 ∨ wkF D r f (nxB r b c) (nxC D r b c)
def wz (D : Nat) : Nat × Nat × Nat := wkZ D (rt D) 999999 (fB D) (fC D) 1 1 0
def zT (D : Nat) : Nat := fB D * (wz D).2.1 + 2 * (wz D).2.2
def uZ (D : Nat) : Nat × Nat × Nat × Nat × Nat := if (wz D).1 % 2 = 1 then (zT D * zT D + 2, zT D * (wz D).2.1, zT D, (wz D).2.1, 2 * (wz D).1) else (zT D, (wz D).2.1, 0, 0, (wz D).1)
theorem wkZ_ge {D r : Nat} (h0 : r * r < D) (h3 : D < (r + 1) * (r + 1)) : ∀ (f A b c k L B : Nat), Red D r A b c → L ≤ (wkZ D r f b c k L B).2.1 := by
  intro f
  induction f with
  | zero => intro A b c k L B _; exact Nat.le_refl _
  | succ f ih =>
    intro A b c k L B hR
    rw [wkZ]
    split
    · exact Nat.le_refl _
    · have h1 := ih c _ _ (k + 1) ((b + r) / (2 * c) * L + B) L (hR.next h0 h3)
      have h2 : 1 * L ≤ (b + r) / (2 * c) * L := Nat.mul_le_mul_right _ (nx_q hR.2.2.1 hR.2.2.2.2.2)
      omega
theorem wkZ_le (D r : Nat) : ∀ (f b c k L B : Nat), (wkZ D r f b c k L B).1 ≤ k + f := by
  intro f
  induction f with
  | zero => intro b c k L B; exact Nat.le_refl _
  | succ f ih =>
    intro b c k L B
    rw [wkZ]
    split
    · exact Nat.le_add_right _ _
    · have := ih (nxB r b c) (nxC D r b c) (k + 1) ((b + r) / (2 * c) * L + B) L
      omega
theorem rv_of_sv {f : Nat → Int32} {i n : Nat} (hi : i < 11) (hok : dgOk f) (h : sv f i = (n : Int)) : rv f i = n := by
  have hl : (rv f i : Int) < (WW : Int) := Int.ofNat_lt.mpr (rv_lt hi hok)
  unfold sv at h
  split at h
  · exact Int.ofNat.inj h
  · generalize (WW : Int) = Q at hl h
    omega
theorem sv_of_rv {f : Nat → Int32} {i n : Nat} (h : rv f i = n) (hn : n < HW) : sv f i = (n : Int) := by
  unfold sv
  rw [h, if_pos hn]
theorem lt_HW {n : Nat} (h : n < BB) : n < HW := by
  have := BB_HW
  generalize BB = X at h this
  generalize HW = Y at this
  omega
theorem nn_HW (n : Nat) : -(HW : Int) ≤ (n : Int) := by
  have h1 : (0 : Int) ≤ (HW : Int) := Int.natCast_nonneg _
  have h2 : (0 : Int) ≤ (n : Int) := Int.natCast_nonneg _
  generalize (HW : Int) = Y at h1 ⊢
  omega
/-- the ring's first form, one step earlier -/
theorem pre_red {D : Nat} (h : dOk D) : Red D (rt D) (fC D) (fB D) 1 := by
  obtain ⟨b1, b2, b3, b4, b5, b6⟩ := first_red h
  obtain ⟨a1, a2, a3, a4, a5, a6⟩ := h
  have hb2 : rt D ≤ fB D + 1 := by unfold fB; split <;> omega
  refine ⟨b1, b3, Nat.le_refl 1, by rw [Nat.mul_comm (fC D)]; exact b4, by omega, by omega⟩
theorem pre_B {D : Nat} (h : dOk D) : nxB (rt D) (fB D) 1 = fB D := by
  obtain ⟨a1, a2, a3, a4, a5, a6⟩ := h
  have hb : fB D ≤ rt D := Nat.sub_le _ _
  have hb2 : rt D ≤ fB D + 1 := by unfold fB; split <;> omega
  unfold nxB
  omega
theorem pre_C {D : Nat} (h : dOk D) : nxC D (rt D) (fB D) 1 = fC D := by
  unfold nxC
  rw [pre_B h]
  rfl
/-- where c is 1, b is the first one -/
theorem red_one {D A b : Nat} (hd : dOk D) (h : Red D (rt D) A b 1) : b = fB D := by
  obtain ⟨h1, h2, h3, h4, h5, h6⟩ := h
  have hm : b % 2 = D % 2 := by
    have h7 := sq_mod4 b
    have := hd.2.2.2.2.2
    omega
  unfold fB
  split <;> omega
theorem lN_ne0 {n : Nat} (h : 0 < n) (h2 : n < 2 ^ 63) : ¬ lN n = 0 := fun q => by
  rw [show (0 : Int64) = lN 0 from rfl, pk_lEQ h2 (by decide)] at q
  omega
theorem rt_sqr {D : Nat} (h : dOk D) : sqr D = rt D := by
  obtain ⟨a1, a2, a3, a4, a5, a6⟩ := h
  obtain ⟨s1, s2⟩ := sqr_spec (V := D) (by omega)
  exact sq_uniq s1 s2 (by omega) a5
theorem bd_core {T L X f b : Nat} (hf : 1 ≤ f) (hB : T * T + 2 < X) (hT : T = f * L + 2 * b) : L < X ∧ T < X ∧ T * L < X ∧ T * T < X ∧ b < X ∧ 2 < X := by
  have h1 : 1 * L ≤ f * L := Nat.mul_le_mul_right _ hf
  have h2 : T ≤ T * T := Nat.le_mul_self _
  have h3 : T * L ≤ T * T := Nat.mul_le_mul_left _ (by omega)
  refine ⟨by omega, by omega, by omega, by omega, by omega, by omega⟩
theorem lt_WW {n : Nat} (h : n < BB) : n < WW := by
  have h1 := lt_HW h
  have h2 := HW_2
  generalize HW = Y at h1 h2
  generalize WW = Q at h2 ⊢
  omega
/-- what the walk leaves in the object -/
def mZ (g g2 : SM) (D : Nat) : Prop := g2.1 = g.1 ∧ g2.2.1 = g.2.1 ∧ g2.2.2.1 = nI (uZ D).2.2.2.2 ∧ g2.2.2.2.1 = (if (wz D).1 % 2 = 1 then 1 else 0) ∧ g2.2.2.2.2.1 = g.2.2.2.2.1 ∧ dgOk g2.2.2.2.2.2 ∧ sv g2.2.2.2.2.2 0 = ((uZ D).1 : Int) ∧ sv g2.2.2.2.2.2 1 = ((uZ D).2.1 : Int) ∧ sv g2.2.2.2.2.2 6 = ((uZ D).2.2.1 : Int) ∧ sv g2.2.2.2.2.2 7 = ((uZ D).2.2.2.1 : Int)
set_option maxHeartbeats 4000000 in
set_option maxRecDepth 100000 in
theorem cm_find (l : Launch) (z : YM) (sz : Nat) (g : SM) {D : Nat} (hd : dOk D) (hE : wkF D (rt D) 999999 (fB D) (fC D)) (hB : zT D * zT D + 2 < BB) (hdd : g.2.1 = lN D) (hmn : g.2.2.2.1 = 0) (hok : dgOk g.2.2.2.2.2) (h60 : sv g.2.2.2.2.2 6 = 0) (h70 : sv g.2.2.2.2.2 7 = 0) : Met l y_M_find (zw y_M_find b_M_find 13 none) { frames := 3, cells := 0, slots := 0, locals := 75 } (va_Pc [.ref (oM z)] (mI z g sz)) (va_Qv (fun g2 => mZ g g2 D) (mO z sz) (yA z sz)) 0 0 (yA z sz) := by
  refine m_ofW (by decide) (Nat.le_of_ble_eq_true rfl) (fun p e s m below meth c hx hb hr hml hown hts hlocks hname hsz ls hU hl => ?_)
  have hl : lv_has ls 13 [(0, .ref (oM z))] := hl
  have hred := first_red hd
  have hpre := pre_red hd
  have hpB := pre_B hd
  have hpC := pre_C hd
  have hsq := rt_sqr hd
  have hone := fun A b => red_one (D := D) (A := A) (b := b) hd
  obtain ⟨a1, a2, a3, a4, a5, a6⟩ := id hd
  obtain ⟨F, eF⟩ : ∃ y, y = g.2.2.2.2.2 := ⟨_, rfl⟩
  obtain ⟨r, er⟩ : ∃ y, y = rt D := ⟨_, rfl⟩
  obtain ⟨b0, eb0⟩ : ∃ y, y = fB D := ⟨_, rfl⟩
  obtain ⟨c00, ec0⟩ : ∃ y, y = fC D := ⟨_, rfl⟩
  rw [← er, ← eb0, ← ec0] at hred hpre
  rw [← er, ← eb0] at hpB
  rw [← er, ← eb0, ← ec0] at hpC
  rw [← er, ← eb0, ← ec0] at hE
  rw [← er] at a2 a3 a4 a5 hsq
  have hone : ∀ A b, Red D r A b 1 → b = b0 := fun A b h => by rw [eb0]; exact hone A b (by rw [← er]; exact h)
  have ewz : wz D = wkZ D r 999999 b0 c00 1 1 0 := by rw [wz, ← er, ← eb0, ← ec0]
  have hb9 := hred.1
  have hb1 : 1 ≤ b0 := by have := hpre.2.2.2.2.1; omega
  obtain ⟨hLB, hTB, hTL, hTT, hBB, h2B⟩ := bd_core (f := fB D) (L := (wz D).2.1) (b := (wz D).2.2) (by rw [← eb0]; exact hb1) hB rfl
  have X : ∀ (k L B : Nat) (f : Nat → Int32) (x5 x7 x11 : Int64) (x10 : Int32) (H : Heap) (locs : List Loc) (ls : Array Slot), wz D = (k, L, B) → k ≤ 1000000 → dgOk f → sv f 8 = (L : Int) → sv f 9 = (B : Int) → (∀ q, (q < 8800 ∨ 12100 ≤ q) → f q = F q) → Ms z (mF g f) s.heap H locs s → lv_has ls 13 [(0, .ref (oM z)), (1, .long (lN r)), (3, .long (lN b0)), (5, .long x5), (7, .long x7), (9, .int (nI k)), (10, .int x10)] → W p l e ({ frames := 3, cells := 0, slots := 0, locals := 75 } : Room) s m ([.ref (oM z)] : List Value).toArray below meth c H locs 0 0 (MQ below (va_Qv (fun g2 => mZ g g2 D) (mO z sz) (yA z sz)) ([.ref (oM z)] : List Value).toArray s 0 0 (yA z sz)) (F0 m 158 ls []) := by
    intro k L B f x5 x7 x11 x10 H locs ls hw hk h1 h8 h9 hs hU hl
    have eL : L = (wz D).2.1 := by rw [hw]
    have eB : B = (wz D).2.2 := by rw [hw]
    have ek : k = (wz D).1 := by rw [hw]
    have eT : zT D = b0 * L + 2 * B := by rw [zT, ← eb0, ← eL, ← eB]
    refine lv_aload_n hx hb d_M_find_158 rfl (lv_at hl 0 rfl) ?_
    refine lv_iconst (v := 0) hx hb d_M_find_159 (by decide) ?_
    refine lv_ldc2 (v := 2) hx hb hown (hts _ k_M_54) d_M_find_160 ?_
    refine lv_bipush (v := 9) hx hb d_M_find_163 (by decide) ?_
    refine lv_lload_n hx hb d_M_find_165 rfl (lv_at hl 2 rfl) ?_
    refine lv_bipush (v := 8) hx hb d_M_find_166 (by decide) ?_
    have tb0 : (lN b0).toInt = (b0 : Int) := pk_lT (by omega)
    refine m_callv (m_run (As := [.int 0, .long 2, .int 9, .long (lN b0), .int 8]) (rest := []) hx hb hml hown hts hU (cm_combine l z _ (mF g f) (to := 0) (i := 9) (j := 8) (by decide) (by decide) (by decide) (x := 2) (y := lN b0) (by decide) (by decide) (by rw [tb0]; omega) (by rw [tb0]; omega) h1) (w_M_combine_cw hts k_M_69 rfl rfl ⟨Nat.le_of_ble_eq_true rfl, Nat.le_of_ble_eq_true rfl⟩) (m_recv hU) rfl hl.1 rfl (lv_room (Nat.le_of_ble_eq_true rfl)) d_M_find_168 ⟨Nat.zero_le _, Nat.zero_le _⟩) hU (fun g168 H locs hp hU => ?_)
    obtain ⟨f1, rfl, k1, k2, k3⟩ := hp
    have k2 : rsm f f1 0 := k2
    have k3 : (rv f1 0 : Int) = ((2 : Int64).toInt * (rv f 9 : Int) + (lN b0).toInt * (rv f 8 : Int)) % (WW : Int) := k3
    have eS : (2 : Int64).toInt * sv f 9 + (lN b0).toInt * sv f 8 = ((zT D : Nat) : Int) := by
      rw [h8, h9, tb0, eT, show (2 : Int64).toInt = 2 from rfl, Int.natCast_add, Int.natCast_mul, Int.natCast_mul]
      omega
    have s0 := sv_comb k3 (by rw [eS]; exact nn_HW _) (by rw [eS]; exact Int.ofNat_lt.mpr (lt_HW hTB))
    rw [eS] at s0
    have hU : Ms z (mF g f1) s.heap H locs s := hU
    refine lv_aload_n hx hb d_M_find_171 rfl (lv_at hl 0 rfl) ?_
    refine lv_iconst (v := 1) hx hb d_M_find_172 (by decide) ?_
    refine lv_bipush (v := 8) hx hb d_M_find_173 (by decide) ?_
    refine m_callv (m_run (As := [.int 1, .int 8]) (rest := []) hx hb hml hown hts hU (cm_copy l z _ (mF g f1) (to := 1) (fr := 8) (by decide) (by decide) (by decide) k1) (w_M_copy_cw hts k_M_73 rfl rfl ⟨Nat.le_of_ble_eq_true rfl, Nat.le_of_ble_eq_true rfl⟩) (m_recv hU) rfl hl.1 rfl (lv_room (Nat.le_of_ble_eq_true rfl)) d_M_find_175 ⟨Nat.zero_le _, Nat.zero_le _⟩) hU (fun g175 H locs hp hU => ?_)
    obtain ⟨f2, rfl, k4, k5, k6⟩ := hp
    have k5 : rsm f1 f2 1 := k5
    have s1 : sv f2 1 = ((wz D).2.1 : Int) := by rw [sv_eq (f2 := f1) (j := 8) k6, k2.sv (by decide), h8, eL]
    have s02 : sv f2 0 = ((zT D : Nat) : Int) := by rw [k5.sv (by decide), s0]
    have v6 : sv f2 6 = 0 := by
      rw [k5.sv (by decide), k2.sv (by decide), ← h60, ← eF]
      exact sv_eq (dv_congr fun q hq => hs _ (by omega))
    have v7 : sv f2 7 = 0 := by
      rw [k5.sv (by decide), k2.sv (by decide), ← h70, ← eF]
      exact sv_eq (dv_congr fun q hq => hs _ (by omega))
    have hU : Ms z (mF g f2) s.heap H locs s := hU
    refine lv_aload_n hx hb d_M_find_178 rfl (lv_at hl 0 rfl) ?_
    refine lv_iload hx hb d_M_find_179 (lv_at hl 5 rfl) ?_
    refine mp_R hx hb hts hown hU (hts _ k_M_41) d_M_find_181 (fun H locs hU => ?_)
    generalize eg181 : mR (mF g f2) (nI k) = g181 at hU
    refine lv_iload hx hb d_M_find_184 (lv_at hl 5 rfl) ?_
    refine lv_iconst (v := 2) hx hb d_M_find_186 (by decide) ?_
    have hne187 : ¬ (2 : Int32) = 0 := by decide
    refine lv_irem hx hb d_M_find_187 hne187 ?_
    refine lv_topi (fun x187 ex187 => ?_)
    have e187 : x187 = nI (k % 2) := by rw [ex187]; exact pk_rem (a := k) (d := 2) (by omega) (by decide) (by decide)
    refine lv_if_ne (tgt := 192) hx hb d_M_find_188 (by decide) (fun c188 => ?_) (fun c188 => ?_)
    · have h188 : k % 2 = 1 := by
        apply Classical.byContradiction
        intro q
        exact c188 (by rw [e187, show k % 2 = 0 by omega]; rfl)
      have hod : (wz D).1 % 2 = 1 := by rw [← ek]; exact h188
      have hbo202 : (1 : Int32) = 0 ∨ (1 : Int32) = 1 := Or.inr rfl
      refine lv_aload_n hx hb d_M_find_192 rfl (lv_at hl 0 rfl) ?_
      refine lv_iconst (v := 2) hx hb d_M_find_193 (by decide) ?_
      refine lv_iload hx hb d_M_find_194 (lv_at hl 5 rfl) ?_
      refine lv_imul hx hb d_M_find_196 ?_
      refine lv_topi (fun x196 ex196 => ?_)
      refine mp_R hx hb hts hown hU (hts _ k_M_41) d_M_find_197 (fun H locs hU => ?_)
      generalize eg197 : mR g181 x196 = g197 at hU
      refine lv_aload_n hx hb d_M_find_200 rfl (lv_at hl 0 rfl) ?_
      refine lv_iconst (v := 1) hx hb d_M_find_201 (by decide) ?_
      refine mp_N hx hb hts hown hU (hts _ k_M_44) hbo202 d_M_find_202 (fun H locs hU => ?_)
      generalize eg202 : mN g197 1 = g202 at hU
      refine lv_aload_n hx hb d_M_find_205 rfl (lv_at hl 0 rfl) ?_
      refine lv_bipush (v := 6) hx hb d_M_find_206 (by decide) ?_
      refine lv_iconst (v := 0) hx hb d_M_find_208 (by decide) ?_
      have e196 : x196 = nI (2 * k) := by rw [ex196]; exact pk_mul 2 k
      have q0 : g202.2.2.2.2.2 = f2 := by rw [← eg202, ← eg197, ← eg181]; rfl
      refine m_callv (m_run (As := [.int 6, .int 0]) (rest := []) hx hb hml hown hts hU (cm_copy l z _ g202 (to := 6) (fr := 0) (by decide) (by decide) (by decide) (by rw [q0]; exact k4)) (w_M_copy_cw hts k_M_73 rfl rfl ⟨Nat.le_of_ble_eq_true rfl, Nat.le_of_ble_eq_true rfl⟩) (m_recv hU) rfl hl.1 rfl (lv_room (Nat.le_of_ble_eq_true rfl)) d_M_find_209 ⟨Nat.zero_le _, Nat.zero_le _⟩) hU (fun g209 H locs hp hU => ?_)
      obtain ⟨f3, rfl, l1, l2, l3⟩ := hp
      rw [q0] at l2 l3
      have hU : Ms z (mF g202 f3) s.heap H locs s := hU
      refine lv_aload_n hx hb d_M_find_212 rfl (lv_at hl 0 rfl) ?_
      refine lv_bipush (v := 7) hx hb d_M_find_213 (by decide) ?_
      refine lv_iconst (v := 1) hx hb d_M_find_215 (by decide) ?_
      refine m_callv (m_run (As := [.int 7, .int 1]) (rest := []) hx hb hml hown hts hU (cm_copy l z _ (mF g202 f3) (to := 7) (fr := 1) (by decide) (by decide) (by decide) l1) (w_M_copy_cw hts k_M_73 rfl rfl ⟨Nat.le_of_ble_eq_true rfl, Nat.le_of_ble_eq_true rfl⟩) (m_recv hU) rfl hl.1 rfl (lv_room (Nat.le_of_ble_eq_true rfl)) d_M_find_216 ⟨Nat.zero_le _, Nat.zero_le _⟩) hU (fun g216 H locs hp hU => ?_)
      obtain ⟨f4, rfl, l4, l5, l6⟩ := hp
      have l5 : rsm f3 f4 7 := l5
      have l6 : rv f4 7 = rv f3 1 := l6
      have z6 : sv f4 6 = ((zT D : Nat) : Int) := by rw [l5.sv (by decide), sv_eq l3, s02]
      have z7 : sv f4 7 = ((wz D).2.1 : Int) := by rw [sv_eq l6, l2.sv (by decide), s1]
      have hU : Ms z (mF g202 f4) s.heap H locs s := hU
      refine lv_aload_n hx hb d_M_find_219 rfl (lv_at hl 0 rfl) ?_
      refine lv_iconst (v := 1) hx hb d_M_find_220 (by decide) ?_
      refine lv_bipush (v := 6) hx hb d_M_find_221 (by decide) ?_
      refine lv_bipush (v := 7) hx hb d_M_find_223 (by decide) ?_
      refine m_callv (m_run (As := [.int 1, .int 6, .int 7]) (rest := []) hx hb hml hown hts hU (cm_multiply l z _ (mF g202 f4) (to := 1) (i := 6) (j := 7) (by decide) (by decide) (by decide) (by decide) (by decide) l4) (w_M_multiply_cw hts k_M_77 rfl rfl ⟨Nat.le_of_ble_eq_true rfl, Nat.le_of_ble_eq_true rfl⟩) (m_recv hU) rfl hl.1 rfl (lv_room (Nat.le_of_ble_eq_true rfl)) d_M_find_225 ⟨Nat.zero_le _, Nat.zero_le _⟩) hU (fun g225 H locs hp hU => ?_)
      obtain ⟨f5, rfl, m1, m2, m3⟩ := hp
      have m2 : rsm f4 f5 1 := m2
      have m3 : rv f5 1 = rv f4 6 * rv f4 7 % WW := m3
      rw [rv_of_sv (by decide) l4 z6, rv_of_sv (by decide) l4 z7, Nat.mod_eq_of_lt (lt_WW hTL)] at m3
      have hU : Ms z (mF g202 f5) s.heap H locs s := hU
      refine lv_aload_n hx hb d_M_find_228 rfl (lv_at hl 0 rfl) ?_
      refine lv_iconst (v := 0) hx hb d_M_find_229 (by decide) ?_
      refine lv_bipush (v := 6) hx hb d_M_find_230 (by decide) ?_
      refine lv_bipush (v := 6) hx hb d_M_find_232 (by decide) ?_
      refine m_callv (m_run (As := [.int 0, .int 6, .int 6]) (rest := []) hx hb hml hown hts hU (cm_multiply l z _ (mF g202 f5) (to := 0) (i := 6) (j := 6) (by decide) (by decide) (by decide) (by decide) (by decide) m1) (w_M_multiply_cw hts k_M_77 rfl rfl ⟨Nat.le_of_ble_eq_true rfl, Nat.le_of_ble_eq_true rfl⟩) (m_recv hU) rfl hl.1 rfl (lv_room (Nat.le_of_ble_eq_true rfl)) d_M_find_234 ⟨Nat.zero_le _, Nat.zero_le _⟩) hU (fun g234 H locs hp hU => ?_)
      obtain ⟨f6, rfl, m4, m5, m6⟩ := hp
      have m5 : rsm f5 f6 0 := m5
      have m6 : rv f6 0 = rv f5 6 * rv f5 6 % WW := m6
      rw [m2.rv (by decide), rv_of_sv (by decide) l4 z6, Nat.mod_eq_of_lt (lt_WW hTT)] at m6
      have hU : Ms z (mF g202 f6) s.heap H locs s := hU
      refine lv_aload_n hx hb d_M_find_237 rfl (lv_at hl 0 rfl) ?_
      refine lv_bipush (v := 10) hx hb d_M_find_238 (by decide) ?_
      refine lv_lconst (v := 1) hx hb d_M_find_240 (by decide) ?_
      refine m_callv (m_run (As := [.int 10, .long 1]) (rest := []) hx hb hml hown hts hU (cm_be l z _ (mF g202 f6) (to := 10) (by decide) (w := 1) (by decide) m4) (w_M_be_cw hts k_M_48 rfl rfl ⟨Nat.le_of_ble_eq_true rfl, Nat.le_of_ble_eq_true rfl⟩) (m_recv hU) rfl hl.1 rfl (lv_room (Nat.le_of_ble_eq_true rfl)) d_M_find_241 ⟨Nat.zero_le _, Nat.zero_le _⟩) hU (fun g241 H locs hp hU => ?_)
      obtain ⟨f7, rfl, o1, o2, o3⟩ := hp
      have o2 : rsm f6 f7 10 := o2
      have hU : Ms z (mF g202 f7) s.heap H locs s := hU
      refine lv_aload_n hx hb d_M_find_244 rfl (lv_at hl 0 rfl) ?_
      refine lv_iconst (v := 0) hx hb d_M_find_245 (by decide) ?_
      refine lv_lconst (v := 1) hx hb d_M_find_246 (by decide) ?_
      refine lv_iconst (v := 0) hx hb d_M_find_247 (by decide) ?_
      refine lv_ldc2 (v := 2) hx hb hown (hts _ k_M_54) d_M_find_248 ?_
      refine lv_bipush (v := 10) hx hb d_M_find_251 (by decide) ?_
      refine m_callv (m_run (As := [.int 0, .long 1, .int 0, .long 2, .int 10]) (rest := []) hx hb hml hown hts hU (cm_combine l z _ (mF g202 f7) (to := 0) (i := 0) (j := 10) (by decide) (by decide) (by decide) (x := 1) (y := 2) (by decide) (by decide) (by decide) (by decide) o1) (w_M_combine_cw hts k_M_69 rfl rfl ⟨Nat.le_of_ble_eq_true rfl, Nat.le_of_ble_eq_true rfl⟩) (m_recv hU) rfl hl.1 rfl (lv_room (Nat.le_of_ble_eq_true rfl)) d_M_find_253 ⟨Nat.zero_le _, Nat.zero_le _⟩) hU (fun g253 H locs hp hU => ?_)
      obtain ⟨f8, rfl, p1, p2, p3⟩ := hp
      have p2 : rsm f7 f8 0 := p2
      have p3 : (rv f8 0 : Int) = ((1 : Int64).toInt * (rv f7 0 : Int) + (2 : Int64).toInt * (rv f7 10 : Int)) % (WW : Int) := p3
      have y0 : sv f7 0 = ((zT D * zT D : Nat) : Int) := sv_of_rv (by rw [o2.rv (by decide), m6]) (lt_HW hTT)
      have y10 : sv f7 10 = ((1 : Nat) : Int) := sv_of_rv o3 (lt_HW (Nat.lt_trans (by decide) h2B))
      have eS2 : (1 : Int64).toInt * sv f7 0 + (2 : Int64).toInt * sv f7 10 = ((zT D * zT D + 2 : Nat) : Int) := by
        rw [y0, y10, show (1 : Int64).toInt = 1 from rfl, show (2 : Int64).toInt = 2 from rfl, Int.natCast_add]
        omega
      have s8 := sv_comb p3 (by rw [eS2]; exact nn_HW _) (by rw [eS2]; exact Int.ofNat_lt.mpr (lt_HW hB))
      rw [eS2] at s8
      exact m_vret hx hb hr hlocks hsz hU (by
        rw [mZ, uZ, if_pos hod, if_pos hod]
        refine ⟨by rw [← eg202, ← eg197, ← eg181]; rfl, by rw [← eg202, ← eg197, ← eg181]; rfl, by rw [← eg202, ← eg197, e196, ← ek]; rfl, by rw [← eg202]; rfl, by rw [← eg202, ← eg197, ← eg181]; rfl, p1, s8, ?_, ?_, ?_⟩
        · show sv f8 1 = _
          rw [p2.sv (by decide), o2.sv (by decide), m5.sv (by decide)]
          exact sv_of_rv m3 (lt_HW hTL)
        · show sv f8 6 = _
          rw [p2.sv (by decide), o2.sv (by decide), m5.sv (by decide), m2.sv (by decide), z6]
        · show sv f8 7 = _
          rw [p2.sv (by decide), o2.sv (by decide), m5.sv (by decide), m2.sv (by decide), z7]) d_M_find_256
    · have h188 : ¬ k % 2 = 1 := by
        intro q
        rw [e187, q] at c188
        exact absurd c188 (by decide)
      have hod : ¬ (wz D).1 % 2 = 1 := by rw [← ek]; exact h188
      exact m_vret hx hb hr hlocks hsz hU (by
        rw [mZ, uZ, if_neg hod, if_neg hod]
        exact ⟨by rw [← eg181]; rfl, by rw [← eg181]; rfl, by rw [← eg181, ← ek]; rfl, by rw [← eg181]; exact hmn, by rw [← eg181]; rfl, by rw [← eg181]; exact k4, by rw [← eg181]; exact s02, by rw [← eg181]; exact s1, by rw [← eg181]; exact v6, by rw [← eg181]; exact v7⟩) d_M_find_191
  have IT : ∀ (A b c7 k L B : Nat) (f : Nat → Int32) (x11 : Int64) (x10 : Int32) (H : Heap) (locs : List Loc) (ls : Array Slot), Red D r A b c7 → k ≤ 1000000 → L < BB → B < BB → (b + r) / (2 * c7) * L + B < BB → dgOk f → sv f 8 = (L : Int) → sv f 9 = (B : Int) → (∀ q, (q < 8800 ∨ 12100 ≤ q) → f q = F q) → (∀ (f : Nat → Int32) (H : Heap) (locs : List Loc) (ls : Array Slot), dgOk f → sv f 8 = (((b + r) / (2 * c7) * L + B : Nat) : Int) → sv f 9 = (L : Int) → (∀ q, (q < 8800 ∨ 12100 ≤ q) → f q = F q) → Ms z (mF g f) s.heap H locs s → lv_has ls 13 [(0, .ref (oM z)), (1, .long (lN r)), (3, .long (lN b0)), (5, .long (lN (nxB r b c7))), (7, .long (lN (2 * nxC D r b c7))), (9, .int (nI (k + 1))), (10, .int (if nxC D r b c7 = 1 then 0 else 1))] → W p l e ({ frames := 3, cells := 0, slots := 0, locals := 75 } : Room) s m ([.ref (oM z)] : List Value).toArray below meth c H locs 0 0 (MQ below (va_Qv (fun g2 => mZ g g2 D) (mO z sz) (yA z sz)) ([.ref (oM z)] : List Value).toArray s 0 0 (yA z sz)) (F0 m 61 ls [])) → Ms z (mF g f) s.heap H locs s → lv_has ls 13 [(0, .ref (oM z)), (1, .long (lN r)), (3, .long (lN b0)), (5, .long (lN b)), (7, .long (lN (2 * c7))), (9, .int (nI k)), (10, .int x10)] → W p l e ({ frames := 3, cells := 0, slots := 0, locals := 75 } : Room) s m ([.ref (oM z)] : List Value).toArray below meth c H locs 0 0 (MQ below (va_Qv (fun g2 => mZ g g2 D) (mO z sz) (yA z sz)) ([.ref (oM z)] : List Value).toArray s 0 0 (yA z sz)) (F0 m 66 ls []) := by
    intro A b c7 k L B f x11 x10 H locs ls hR hk hLb hBb hNb h1 h8 h9 hs cont hU hl
    have hNx := hR.next a4 a5
    obtain ⟨hb2, hA, hc, eD, h10, h2⟩ := id hR
    obtain ⟨n1, n2, n3, n4, n5⟩ := nx_b hb2 hc h10 h2
    obtain ⟨m1, m2⟩ := nx_c a4 hR
    refine lv_lload hx hb d_M_find_66 (lv_at hl 3 rfl) ?_
    refine lv_lload_n hx hb d_M_find_68 rfl (lv_at hl 1 rfl) ?_
    refine lv_ladd hx hb d_M_find_69 ?_
    refine lv_topl (fun x69 ex69 => ?_)
    refine lv_lload hx hb d_M_find_70 (lv_at hl 4 rfl) ?_
    have hne72 : ¬ lN (2 * c7) = 0 := lN_ne0 (by omega) (by omega)
    refine lv_ldiv hx hb d_M_find_72 hne72 ?_
    refine lv_topl (fun x72 ex72 => ?_)
    refine lv_lstore (lv' := [(11, .long x72), (0, .ref (oM z)), (1, .long (lN r)), (3, .long (lN b0)), (5, .long (lN b)), (7, .long (lN (2 * c7))), (9, .int (nI k)), (10, .int x10)]) hx hb d_M_find_73 hl (by decide) rfl (fun ls hl => ?_)
    refine lv_aload_n hx hb d_M_find_75 rfl (lv_at hl 1 rfl) ?_
    refine lv_bipush (v := 10) hx hb d_M_find_76 (by decide) ?_
    refine lv_lload hx hb d_M_find_78 (lv_at hl 0 rfl) ?_
    refine lv_bipush (v := 8) hx hb d_M_find_80 (by decide) ?_
    refine lv_lconst (v := 1) hx hb d_M_find_82 (by decide) ?_
    refine lv_bipush (v := 9) hx hb d_M_find_83 (by decide) ?_
    have e69 : x69 = lN (b + r) := by rw [ex69, lN_add]
    have e72 : x72 = lN ((b + r) / (2 * c7)) := by rw [ex72, e69]; exact pk_lDiv (by omega) (by omega) (by omega)
    obtain ⟨q, eq⟩ : ∃ y, y = (b + r) / (2 * c7) := ⟨_, rfl⟩
    rw [← eq] at e72 hNb
    have hq : q ≤ 2048 := by rw [eq]; exact Nat.le_trans (Nat.div_le_self _ _) (by omega)
    have hqX : 2 * c7 * q ≤ b + r := by rw [eq]; exact Nat.mul_div_le _ _
    have tq : (lN q).toInt = (q : Int) := pk_lT (by omega)
    refine m_callv (m_run (As := [.int 10, .long x72, .int 8, .long 1, .int 9]) (rest := []) hx hb hml hown hts hU (cm_combine l z _ (mF g f) (to := 10) (i := 8) (j := 9) (by decide) (by decide) (by decide) (x := x72) (y := 1) (by rw [e72, tq]; omega) (by rw [e72, tq]; omega) (by decide) (by decide) h1) (w_M_combine_cw hts k_M_69 rfl rfl ⟨Nat.le_of_ble_eq_true rfl, Nat.le_of_ble_eq_true rfl⟩) (m_recv hU) rfl hl.1 rfl (lv_room (Nat.le_of_ble_eq_true rfl)) d_M_find_85 ⟨Nat.zero_le _, Nat.zero_le _⟩) hU (fun g85 H locs hp hU => ?_)
    obtain ⟨f1, rfl, k1, k2, k3⟩ := hp
    have k2 : rsm f f1 10 := k2
    have k3 : (rv f1 10 : Int) = (x72.toInt * (rv f 8 : Int) + (1 : Int64).toInt * (rv f 9 : Int)) % (WW : Int) := k3
    have eS : x72.toInt * sv f 8 + (1 : Int64).toInt * sv f 9 = ((q * L + B : Nat) : Int) := by
      rw [h8, h9, e72, tq, show (1 : Int64).toInt = 1 from rfl, Int.natCast_add, Int.natCast_mul]
      omega
    have s0 := sv_comb k3 (by rw [eS]; exact nn_HW _) (by rw [eS]; exact Int.ofNat_lt.mpr (lt_HW hNb))
    rw [eS] at s0
    have hU : Ms z (mF g f1) s.heap H locs s := hU
    refine lv_aload_n hx hb d_M_find_88 rfl (lv_at hl 1 rfl) ?_
    refine lv_bipush (v := 9) hx hb d_M_find_89 (by decide) ?_
    refine lv_bipush (v := 8) hx hb d_M_find_91 (by decide) ?_
    refine m_callv (m_run (As := [.int 9, .int 8]) (rest := []) hx hb hml hown hts hU (cm_copy l z _ (mF g f1) (to := 9) (fr := 8) (by decide) (by decide) (by decide) k1) (w_M_copy_cw hts k_M_73 rfl rfl ⟨Nat.le_of_ble_eq_true rfl, Nat.le_of_ble_eq_true rfl⟩) (m_recv hU) rfl hl.1 rfl (lv_room (Nat.le_of_ble_eq_true rfl)) d_M_find_93 ⟨Nat.zero_le _, Nat.zero_le _⟩) hU (fun g93 H locs hp hU => ?_)
    obtain ⟨f2, rfl, k4, k5, k6⟩ := hp
    have k5 : rsm f1 f2 9 := k5
    have k6 : rv f2 9 = rv f1 8 := k6
    have hU : Ms z (mF g f2) s.heap H locs s := hU
    refine lv_aload_n hx hb d_M_find_96 rfl (lv_at hl 1 rfl) ?_
    refine lv_bipush (v := 8) hx hb d_M_find_97 (by decide) ?_
    refine lv_bipush (v := 10) hx hb d_M_find_99 (by decide) ?_
    refine m_callv (m_run (As := [.int 8, .int 10]) (rest := []) hx hb hml hown hts hU (cm_copy l z _ (mF g f2) (to := 8) (fr := 10) (by decide) (by decide) (by decide) k4) (w_M_copy_cw hts k_M_73 rfl rfl ⟨Nat.le_of_ble_eq_true rfl, Nat.le_of_ble_eq_true rfl⟩) (m_recv hU) rfl hl.1 rfl (lv_room (Nat.le_of_ble_eq_true rfl)) d_M_find_101 ⟨Nat.zero_le _, Nat.zero_le _⟩) hU (fun g101 H locs hp hU => ?_)
    obtain ⟨f3, rfl, k7, k8, k9⟩ := hp
    have k8 : rsm f2 f3 8 := k8
    have k9 : rv f3 8 = rv f2 10 := k9
    have hU : Ms z (mF g f3) s.heap H locs s := hU
    refine lv_lload hx hb d_M_find_104 (lv_at hl 0 rfl) ?_
    refine lv_lload hx hb d_M_find_106 (lv_at hl 5 rfl) ?_
    refine lv_lmul hx hb d_M_find_108 ?_
    refine lv_topl (fun x108 ex108 => ?_)
    refine lv_lload hx hb d_M_find_109 (lv_at hl 4 rfl) ?_
    refine lv_lsub hx hb d_M_find_111 ?_
    refine lv_topl (fun x111 ex111 => ?_)
    refine lv_lstore (lv' := [(5, .long x111), (11, .long x72), (0, .ref (oM z)), (1, .long (lN r)), (3, .long (lN b0)), (7, .long (lN (2 * c7))), (9, .int (nI k)), (10, .int x10)]) hx hb d_M_find_112 hl (by decide) rfl (fun ls hl => ?_)
    refine lv_aload_n hx hb d_M_find_114 rfl (lv_at hl 2 rfl) ?_
    refine va_get (D := z.1) (ci := 3) (v := .long ((mF g f3).2.1)) (C := R_M) (T := F_M) (N := 9) hx hb hts in_M hown hU.2.1 hU.1 0 rfl rfl 1 (by decide) (hts _ k_M_9) (fun _ h9 => h9) rfl d_M_find_115 ?_
    refine lv_topl (fun x115 ex115 => ?_)
    refine lv_lload hx hb d_M_find_118 (lv_at hl 0 rfl) ?_
    refine lv_lload hx hb d_M_find_120 (lv_at hl 0 rfl) ?_
    refine lv_lmul hx hb d_M_find_122 ?_
    refine lv_topl (fun x122 ex122 => ?_)
    refine lv_lsub hx hb d_M_find_123 ?_
    refine lv_topl (fun x123 ex123 => ?_)
    refine lv_lload hx hb d_M_find_124 (lv_at hl 5 rfl) ?_
    have eX : nxB r b c7 = 2 * c7 * q - b := by rw [eq]; rfl
    have e108 : x108 = lN (2 * c7 * q) := by rw [ex108, e72, lN_mul, Nat.mul_comm q]
    have e111 : x111 = lN (nxB r b c7) := by
      rw [ex111, e108, eX]
      exact lN_sub (by rw [eq]; exact n1)
    have hsq2 : nxB r b c7 * nxB r b c7 ≤ D := by omega
    have e115 : x115 = lN D := by rw [ex115]; exact hdd
    have e122 : x122 = lN (nxB r b c7 * nxB r b c7) := by rw [ex122, e111, lN_mul]
    have e123 : x123 = lN (D - nxB r b c7 * nxB r b c7) := by rw [ex123, e115, e122]; exact lN_sub hsq2
    have hne126 : ¬ lN (2 * c7) = 0 := hne72
    refine lv_ldiv hx hb d_M_find_126 hne126 ?_
    refine lv_topl (fun x126 ex126 => ?_)
    refine lv_lstore (lv' := [(7, .long x126), (5, .long x111), (11, .long x72), (0, .ref (oM z)), (1, .long (lN r)), (3, .long (lN b0)), (9, .int (nI k)), (10, .int x10)]) hx hb d_M_find_127 hl (by decide) rfl (fun ls hl => ?_)
    obtain ⟨x129, ex129⟩ : ∃ y : Int32, y = (nI k) + Int32.ofInt 1 := ⟨_, rfl⟩
    refine lv_iinc (v := x129) (lv' := [(9, .int x129), (7, .long x126), (5, .long x111), (11, .long x72), (0, .ref (oM z)), (1, .long (lN r)), (3, .long (lN b0)), (10, .int x10)]) hx hb d_M_find_129 hl (k := 6) rfl (by rw [ex129]) (by decide) rfl (fun ls hl => ?_)
    refine lv_lload hx hb d_M_find_132 (lv_at hl 2 rfl) ?_
    refine lv_lload_n hx hb d_M_find_134 rfl (lv_at hl 6 rfl) ?_
    refine W.lcmp hx hb d_M_find_135 ?_
    have e126 : x126 = lN (2 * nxC D r b c7) := by
      rw [ex126, e123, pk_lDiv (by omega) (by omega) (by omega)]
      have e9 : D - nxB r b c7 * nxB r b c7 = 2 * c7 * (2 * nxC D r b c7) := by
        have : 4 * (c7 * nxC D r b c7) = 2 * c7 * (2 * nxC D r b c7) := by rw [Nat.mul_mul_mul_comm]
        omega
      rw [e9, Nat.mul_div_cancel_left _ (by omega)]
    have hBd : nxC D r b c7 ≤ 2048 := by have := hNx.2.2.2.2.2; omega
    rw [e126, e111, ex129, show Int32.ofInt 1 = 1 from rfl, nI_1] at hl
    have y8 : sv f3 8 = ((q * L + B : Nat) : Int) := by rw [sv_eq k9, k5.sv (by decide), s0]
    have y9 : sv f3 9 = (L : Int) := by rw [k8.sv (by decide), sv_eq k6, k2.sv (by decide), h8]
    have ys : ∀ q, (q < 8800 ∨ 12100 ≤ q) → f3 q = F q := fun q hq => by rw [k8 q (by omega), k5 q (by omega), k2 q (by omega)]; exact hs q hq
    have fin : ∀ (v : Int32) (ls : Array Slot), v = (if nxC D r b c7 = 1 then 0 else 1) → lv_has ls 13 [(0, .ref (oM z)), (1, .long (lN r)), (3, .long (lN b0)), (5, .long (lN (nxB r b c7))), (7, .long (lN (2 * nxC D r b c7))), (9, .int (nI (k + 1))), (10, .int v)] → W p l e _ s m _ below meth c _ _ 0 0 _ (F0 m 61 ls []) := fun v ls hv hl => cont f3 _ _ ls k7 (by rw [y8, eq]) y9 ys hU (by rw [← hv]; exact hl)
    rw [e111]
    refine lv_if_ne (tgt := 148) hx hb d_M_find_136 (by decide) (fun c136 => ?_) (fun c136 => ?_)
    · have h136 : ¬ nxC D r b c7 = 1 := fun q => by
        have hb5 : nxB r b c7 = b0 := hone _ _ (by rw [q] at hNx; exact hNx)
        exact c136 ((lg_cmp_eq _ _).mpr (by rw [hb5]))
      refine lv_iconst (v := 1) hx hb d_M_find_148 (by decide) ?_
      refine lv_goto (tgt := 153) hx hb d_M_find_149 (by decide) ?_
      refine lv_istore (lv' := [(10, .int 1), (9, .int (nI (k + 1))), (7, .long (lN (2 * nxC D r b c7))), (5, .long (lN (nxB r b c7))), (11, .long x72), (0, .ref (oM z)), (1, .long (lN r)), (3, .long (lN b0))]) hx hb d_M_find_153 hl (by decide) rfl (fun ls hl => ?_)
      refine lv_goto (tgt := 61) hx hb d_M_find_155 (by decide) ?_
      exact fin 1 ls (by rw [if_neg h136]) (lv_sub hl [5, 6, 7, 3, 2, 1, 0] rfl)
    · refine lv_lload hx hb d_M_find_139 (lv_at hl 1 rfl) ?_
      refine lv_ldc2 (v := 2) hx hb hown (hts _ k_M_54) d_M_find_141 ?_
      refine W.lcmp hx hb d_M_find_144 ?_
      refine lv_if_eq (tgt := 152) hx hb d_M_find_145 (by decide) (fun c145 => ?_) (fun c145 => ?_)
      · have h145 : nxC D r b c7 = 1 := by
          have q := (lg_cmp_eq _ _).mp c145
          rw [show (2 : Int64) = lN 2 from rfl, pk_lEQ (by omega) (by decide)] at q
          omega
        refine lv_iconst (v := 0) hx hb d_M_find_152 (by decide) ?_
        refine lv_istore (lv' := [(10, .int 0), (9, .int (nI (k + 1))), (7, .long (lN (2 * nxC D r b c7))), (5, .long (lN (nxB r b c7))), (11, .long x72), (0, .ref (oM z)), (1, .long (lN r)), (3, .long (lN b0))]) hx hb d_M_find_153 hl (by decide) rfl (fun ls hl => ?_)
        refine lv_goto (tgt := 61) hx hb d_M_find_155 (by decide) ?_
        exact fin 0 ls (by rw [if_pos h145]) (lv_sub hl [5, 6, 7, 3, 2, 1, 0] rfl)
      · have h145 : ¬ nxC D r b c7 = 1 := fun q => c145 ((lg_cmp_eq _ _).mpr (by rw [q]; rfl))
        refine lv_iconst (v := 1) hx hb d_M_find_148 (by decide) ?_
        refine lv_goto (tgt := 153) hx hb d_M_find_149 (by decide) ?_
        refine lv_istore (lv' := [(10, .int 1), (9, .int (nI (k + 1))), (7, .long (lN (2 * nxC D r b c7))), (5, .long (lN (nxB r b c7))), (11, .long x72), (0, .ref (oM z)), (1, .long (lN r)), (3, .long (lN b0))]) hx hb d_M_find_153 hl (by decide) rfl (fun ls hl => ?_)
        refine lv_goto (tgt := 61) hx hb d_M_find_155 (by decide) ?_
        exact fin 1 ls (by rw [if_neg h145]) (lv_sub hl [5, 6, 7, 3, 2, 1, 0] rfl)
  have K : ∀ (t A b c7 k L B : Nat) (f : Nat → Int32) (x11 : Int64) (H : Heap) (locs : List Loc) (ls : Array Slot), k + t = 1000000 → Red D r A b c7 → wkF D r t b c7 → wz D = wkZ D r t b c7 k L B → B < BB → dgOk f → sv f 8 = (L : Int) → sv f 9 = (B : Int) → (∀ q, (q < 8800 ∨ 12100 ≤ q) → f q = F q) → Ms z (mF g f) s.heap H locs s → lv_has ls 13 [(0, .ref (oM z)), (1, .long (lN r)), (3, .long (lN b0)), (5, .long (lN b)), (7, .long (lN (2 * c7))), (9, .int (nI k)), (10, .int (if c7 = 1 then 0 else 1))] → W p l e ({ frames := 3, cells := 0, slots := 0, locals := 75 } : Room) s m ([.ref (oM z)] : List Value).toArray below meth c H locs 0 0 (MQ below (va_Qv (fun g2 => mZ g g2 D) (mO z sz) (yA z sz)) ([.ref (oM z)] : List Value).toArray s 0 0 (yA z sz)) (F0 m 61 ls []) := by
    intro t
    induction t with
    | zero =>
      intro A b c7 k L B f x11 H locs ls hk hR hF hw hBb h1 h8 h9 hs hU hl
      have hc1 : c7 = 1 := by have := hR.2.2.1; have hF : c7 ≤ 1 := hF; omega
      rw [if_pos hc1] at hl
      refine lv_iload hx hb d_M_find_61 (lv_at hl 6 rfl) ?_
      refine lv_if_eq (tgt := 158) hx hb d_M_find_63 (by decide) (fun c63 => ?_) (fun c63 => ?_)
      · exact X k L B f _ _ 0 _ _ _ ls hw (by omega) h1 h8 h9 hs hU hl
      · exact absurd rfl c63
    | succ t ih =>
      intro A b c7 k L B f x11 H locs ls hk hR hF hw hBb h1 h8 h9 hs hU hl
      by_cases hc1 : c7 = 1
      · rw [if_pos hc1] at hl
        rw [wkZ, if_pos (by omega)] at hw
        refine lv_iload hx hb d_M_find_61 (lv_at hl 6 rfl) ?_
        refine lv_if_eq (tgt := 158) hx hb d_M_find_63 (by decide) (fun c63 => ?_) (fun c63 => ?_)
        · exact X k L B f _ _ 0 _ _ _ ls hw (by omega) h1 h8 h9 hs hU hl
        · exact absurd rfl c63
      · rw [if_neg hc1] at hl
        have hcg : ¬ c7 ≤ 1 := by have := hR.2.2.1; omega
        have hF2 : wkF D r t (nxB r b c7) (nxC D r b c7) := hF.resolve_left hcg
        rw [wkZ, if_neg hcg] at hw
        have hNx := hR.next a4 a5
        have hge := wkZ_ge a4 a5 t _ _ _ (k + 1) ((b + r) / (2 * c7) * L + B) L hNx
        rw [← hw] at hge
        have hql2 : L ≤ (b + r) / (2 * c7) * L + B := Nat.le_trans (Nat.le_of_eq (Nat.one_mul L).symm) (Nat.le_trans (Nat.mul_le_mul_right _ (nx_q hR.2.2.1 hR.2.2.2.2.2)) (Nat.le_add_right _ _))
        refine lv_iload hx hb d_M_find_61 (lv_at hl 6 rfl) ?_
        refine lv_if_eq (tgt := 158) hx hb d_M_find_63 (by decide) (fun c63 => ?_) (fun c63 => ?_)
        · exact absurd c63 (by decide)
        · exact IT A b c7 k L B f 0 1 _ _ ls hR (by omega) (Nat.lt_of_le_of_lt (Nat.le_trans hql2 hge) hLB) hBb (Nat.lt_of_le_of_lt hge hLB) h1 h8 h9 hs (fun f H locs ls g1 g2 g3 g4 g5 g6 => ih c7 _ _ (k + 1) _ L f 0 H locs ls (by omega) hNx hF2 hw (Nat.lt_of_le_of_lt (Nat.le_trans hql2 hge) hLB) g1 g2 g3 g4 g5 g6) hU hl
  have E32 : ∀ (v : Int64) (H : Heap) (locs : List Loc) (ls : Array Slot), v = lN b0 → Ms z g s.heap H locs s → lv_has ls 13 [(0, .ref (oM z)), (1, .long (lN r))] → W p l e ({ frames := 3, cells := 0, slots := 0, locals := 75 } : Room) s m ([.ref (oM z)] : List Value).toArray below meth c H locs 0 0 (MQ below (va_Qv (fun g2 => mZ g g2 D) (mO z sz) (yA z sz)) ([.ref (oM z)] : List Value).toArray s 0 0 (yA z sz)) (F0 m 32 ls [.long v]) := by
    intro v H locs ls hv hU hl
    subst hv
    refine lv_lstore_n (lv' := [(3, .long (lN b0)), (0, .ref (oM z)), (1, .long (lN r))]) hx hb d_M_find_32 rfl hl (by decide) rfl (fun ls hl => ?_)
    refine lv_lload_n hx hb d_M_find_33 rfl (lv_at hl 0 rfl) ?_
    refine lv_lstore (lv' := [(5, .long (lN b0)), (3, .long (lN b0)), (0, .ref (oM z)), (1, .long (lN r))]) hx hb d_M_find_34 hl (by decide) rfl (fun ls hl => ?_)
    refine lv_ldc2 (v := 2) hx hb hown (hts _ k_M_54) d_M_find_36 ?_
    refine lv_lstore (lv' := [(7, .long 2), (5, .long (lN b0)), (3, .long (lN b0)), (0, .ref (oM z)), (1, .long (lN r))]) hx hb d_M_find_39 hl (by decide) rfl (fun ls hl => ?_)
    refine lv_aload_n hx hb d_M_find_41 rfl (lv_at hl 3 rfl) ?_
    refine lv_bipush (v := 8) hx hb d_M_find_42 (by decide) ?_
    refine lv_lconst (v := 0) hx hb d_M_find_44 (by decide) ?_
    refine m_callv (m_run (As := [.int 8, .long 0]) (rest := []) hx hb hml hown hts hU (cm_be l z _ g (to := 8) (by decide) (w := 0) (by decide) hok) (w_M_be_cw hts k_M_48 rfl rfl ⟨Nat.le_of_ble_eq_true rfl, Nat.le_of_ble_eq_true rfl⟩) (m_recv hU) rfl hl.1 rfl (lv_room (Nat.le_of_ble_eq_true rfl)) d_M_find_45 ⟨Nat.zero_le _, Nat.zero_le _⟩) hU (fun g45 H locs hp hU => ?_)
    obtain ⟨f1, rfl, k1, k2, k3⟩ := hp
    rw [← eF] at k2
    have hU : Ms z (mF g f1) s.heap H locs s := hU
    refine lv_aload_n hx hb d_M_find_48 rfl (lv_at hl 3 rfl) ?_
    refine lv_bipush (v := 9) hx hb d_M_find_49 (by decide) ?_
    refine lv_lconst (v := 1) hx hb d_M_find_51 (by decide) ?_
    refine m_callv (m_run (As := [.int 9, .long 1]) (rest := []) hx hb hml hown hts hU (cm_be l z _ (mF g f1) (to := 9) (by decide) (w := 1) (by decide) k1) (w_M_be_cw hts k_M_48 rfl rfl ⟨Nat.le_of_ble_eq_true rfl, Nat.le_of_ble_eq_true rfl⟩) (m_recv hU) rfl hl.1 rfl (lv_room (Nat.le_of_ble_eq_true rfl)) d_M_find_52 ⟨Nat.zero_le _, Nat.zero_le _⟩) hU (fun g52 H locs hp hU => ?_)
    obtain ⟨f2, rfl, k4, k5, k6⟩ := hp
    have k5 : rsm f1 f2 9 := k5
    have hU : Ms z (mF g f2) s.heap H locs s := hU
    refine lv_iconst (v := 0) hx hb d_M_find_55 (by decide) ?_
    refine lv_istore (lv' := [(9, .int 0), (7, .long 2), (5, .long (lN b0)), (3, .long (lN b0)), (0, .ref (oM z)), (1, .long (lN r))]) hx hb d_M_find_56 hl (by decide) rfl (fun ls hl => ?_)
    refine lv_iconst (v := 1) hx hb d_M_find_58 (by decide) ?_
    refine lv_istore (lv' := [(10, .int 1), (9, .int 0), (7, .long 2), (5, .long (lN b0)), (3, .long (lN b0)), (0, .ref (oM z)), (1, .long (lN r))]) hx hb d_M_find_59 hl (by decide) rfl (fun ls hl => ?_)
    refine lv_iload hx hb d_M_find_61 (lv_at hl 0 rfl) ?_
    refine lv_if_eq (tgt := 158) hx hb d_M_find_63 (by decide) (fun c63 => ?_) (fun c63 => ?_)
    · exact absurd c63 (by decide)
    · exact IT c00 b0 1 0 0 1 f2 0 1 _ _ ls hpre (by decide) BB_pos (Nat.lt_trans (by decide) h2B) (by rw [Nat.mul_zero, Nat.zero_add]; exact Nat.lt_trans (by decide) h2B) k4 (by rw [k5.sv (by decide)]; exact sv_of_rv k3 HW_pos) (sv_of_rv k6 (lt_HW (Nat.lt_trans (by decide) h2B))) (fun q hq => by rw [k5 q (by omega), k2 q (by omega)]) (fun f H locs ls g1 g2 g3 g4 g5 g6 => by
        rw [hpB, hpC] at g6
        rw [Nat.mul_zero, Nat.zero_add] at g2
        exact K 999999 1 b0 c00 1 1 0 f 0 H locs ls (by decide) hred hE ewz BB_pos g1 g2 g3 g4 g5 g6) hU (lv_sub hl [5, 6, 4, 3, 2, 1, 0] rfl)
  refine lv_aload_n hx hb d_M_find_0 rfl (lv_at hl 0 rfl) ?_
  refine va_get (D := z.1) (ci := 3) (v := .long g.2.1) (C := R_M) (T := F_M) (N := 9) hx hb hts in_M hown hU.2.1 hU.1 0 rfl rfl 1 (by decide) (hts _ k_M_9) (fun _ h9 => h9) rfl d_M_find_1 ?_
  refine lv_topl (fun x1 ex1 => ?_)
  have e1 : x1 = lN D := by rw [ex1]; exact hdd
  rw [e1]
  refine pr_call (As := [.long (lN D)]) (rest := []) hx hb hml hown hts (cm_wholeRoot l (V := D) (by omega)) (w_M_wholeRoot_cw hts k_M_65 rfl rfl ⟨Nat.le_of_ble_eq_true rfl, Nat.le_of_ble_eq_true rfl⟩) rfl hl.1 rfl (lv_room (Nat.le_of_ble_eq_true rfl)) d_M_find_4 ⟨Nat.zero_le _, Nat.zero_le _⟩ ?_
  refine lv_topl (fun x4 ex4 => ?_)
  have e4 : x4 = lN r := by rw [ex4, hsq]
  rw [e4]
  refine lv_lstore_n (lv' := [(1, .long (lN r)), (0, .ref (oM z))]) hx hb d_M_find_7 rfl hl (by decide) rfl (fun ls hl => ?_)
  refine lv_lload_n hx hb d_M_find_8 rfl (lv_at hl 0 rfl) ?_
  refine lv_ldc2 (v := 2) hx hb hown (hts _ k_M_54) d_M_find_9 ?_
  have hne12 : ¬ (2 : Int64) = 0 := by decide
  refine lv_lrem hx hb d_M_find_12 hne12 ?_
  refine lv_topl (fun x12 ex12 => ?_)
  refine lv_aload_n hx hb d_M_find_13 rfl (lv_at hl 1 rfl) ?_
  refine va_get (D := z.1) (ci := 3) (v := .long g.2.1) (C := R_M) (T := F_M) (N := 9) hx hb hts in_M hown hU.2.1 hU.1 0 rfl rfl 1 (by decide) (hts _ k_M_9) (fun _ h9 => h9) rfl d_M_find_14 ?_
  refine lv_topl (fun x14 ex14 => ?_)
  refine lv_ldc2 (v := 2) hx hb hown (hts _ k_M_54) d_M_find_17 ?_
  have hne20 : ¬ (2 : Int64) = 0 := by decide
  refine lv_lrem hx hb d_M_find_20 hne20 ?_
  refine lv_topl (fun x20 ex20 => ?_)
  refine W.lcmp hx hb d_M_find_21 ?_
  have e12 : x12 = lN (r % 2) := by rw [ex12]; exact pk_lRem (b := 2) (by omega) (by decide) (by decide)
  have e14 : x14 = lN D := by rw [ex14]; exact hdd
  have e20 : x20 = lN (D % 2) := by rw [ex20, e14]; exact pk_lRem (b := 2) (by omega) (by decide) (by decide)
  refine lv_if_ne (tgt := 29) hx hb d_M_find_22 (by decide) (fun c22 => ?_) (fun c22 => ?_)
  · have h22 : ¬ r % 2 = D % 2 := fun q => c22 ((lg_cmp_eq _ _).mpr (by rw [e12, e20, q]))
    refine lv_lload_n hx hb d_M_find_29 rfl (lv_at hl 0 rfl) ?_
    refine lv_lconst (v := 1) hx hb d_M_find_30 (by decide) ?_
    refine lv_lsub hx hb d_M_find_31 ?_
    refine lv_topl (fun x31 ex31 => ?_)
    have e31 : x31 = lN b0 := by
      rw [ex31, show (1 : Int64) = lN 1 from rfl, lN_sub (by omega), eb0, fB, ← er, if_neg (by omega)]
    exact E32 x31 _ _ ls e31 hU (lv_sub hl [1, 0] rfl)
  · have h22 : r % 2 = D % 2 := by
      have q := (lg_cmp_eq _ _).mp c22
      rw [e12, e20, pk_lEQ (by omega) (by omega)] at q
      exact q
    refine lv_lload_n hx hb d_M_find_25 rfl (lv_at hl 0 rfl) ?_
    refine lv_goto (tgt := 32) hx hb d_M_find_26 (by decide) ?_
    exact E32 (lN r) _ _ ls (by rw [eb0, fB, ← er, if_pos (by omega), Nat.sub_zero]) hU (lv_sub hl [1, 0] rfl)
end
section
/-! UnitFinderModel: begin -/
def NTok (D : Nat) : Prop := wkF D (rt D) 999999 (fB D) (fC D) ∧ zT D * zT D + 2 < BB
/-- t, u, the two of -4, the ring's length, of any D, in true numbers -/
def uW (d : Int) : Nat × Nat × Nat × Nat × Nat := if 0 < d then uZ d.toNat else (tB d, uB d, 0, 0, 0)
def mf (d : Int) : Int32 := if 0 < d then (if (wz d.toNat).1 % 2 = 1 then 1 else 0) else 0
/-- the reference's state -/
def mS (g : SM) (d a b c : Int) : Prop := g.2.1.toInt = d ∧ g.2.2.1 = nI (uW d).2.2.2.2 ∧ g.2.2.2.1 = mf d ∧ dgOk g.2.2.2.2.2 ∧ (sv g.2.2.2.2.2 0 = ((uW d).1 : Int) ∧ sv g.2.2.2.2.2 1 = ((uW d).2.1 : Int) ∧ sv g.2.2.2.2.2 6 = ((uW d).2.2.1 : Int) ∧ sv g.2.2.2.2.2 7 = ((uW d).2.2.2.1 : Int)) ∧ sv g.2.2.2.2.2 2 = (((uW d).1 : Int) - b * ((uW d).2.1 : Int)) / 2 ∧ sv g.2.2.2.2.2 3 = -c * ((uW d).2.1 : Int) ∧ sv g.2.2.2.2.2 4 = a * ((uW d).2.1 : Int) ∧ sv g.2.2.2.2.2 5 = (((uW d).1 : Int) + b * ((uW d).2.1 : Int)) / 2
theorem uW_bd {d : Int} (hd : tk d) (hnt : ∀ D, dOk D → NTok D) : (uW d).1 < BB ∧ (uW d).2.1 < BB := by
  have h2 : 4 < BB := by rw [BB_def]; decide +kernel
  unfold uW
  by_cases q : 0 < d
  · rw [if_pos q]
    have hdn : ((d.toNat : Nat) : Int) = d := by omega
    have hdo : dOk d.toNat := tk_dOk (by rw [hdn]; exact hd) (by omega)
    obtain ⟨-, hB⟩ := hnt _ hdo
    have hp := (pre_red hdo).2.2.2.2.1
    have h1 := hdo.2.1
    have hf : 1 ≤ fB d.toNat := by
      generalize fB d.toNat = x at hp
      generalize rt d.toNat = y at hp h1
      omega
    obtain ⟨hLB, hTB, hTL, hTT, hBB, -⟩ := bd_core (f := fB d.toNat) (L := (wz d.toNat).2.1) (b := (wz d.toNat).2.2) hf hB rfl
    unfold uZ
    split
    · exact ⟨hB, hTL⟩
    · exact ⟨hTB, hLB⟩
  · rw [if_neg q]
    refine ⟨Nat.lt_of_le_of_lt ?_ h2, Nat.lt_of_le_of_lt ?_ h2⟩
    · show tB d ≤ 4
      unfold tB
      split
      · decide
      · split <;> decide
    · show uB d ≤ 4
      unfold uB
      split <;> decide
set_option maxHeartbeats 4000000 in
set_option maxRecDepth 100000 in
theorem cm_begin (l : Launch) (z : YM) (sz : Nat) (g : SM) {d : Int} {v : Int64} (hv : v.toInt = d) (hd : tk d) (hnt : ∀ D, dOk D → NTok D) (hok : dgOk g.2.2.2.2.2) : Met l y_M_begin (zw y_M_begin b_M_begin 5 none) { frames := 4, cells := 0, slots := 0, locals := 107 } (va_Pc [.ref (oM z), .long v] (mI z g sz)) (va_Qv (fun g2 => g2.1 = g.1 ∧ mS g2 d 1 (d % 2) ((d % 2 - d) / 4)) (mO z sz) (yA z sz)) 0 0 (yA z sz) := by
  refine m_ofW (by decide) (Nat.le_of_ble_eq_true rfl) (fun p e s m below meth c hx hb hr hml hown hts hlocks hname hsz ls hU hl => ?_)
  have hl : lv_has ls 5 [(0, .ref (oM z)), (1, .long v)] := hl
  have hdl := hd.1
  have hdu := hd.2.1
  have hub := uW_bd hd hnt
  have E : ∀ (g1 : SM) (H : Heap) (locs : List Loc) (ls : Array Slot), g1.1 = g.1 → g1.2.1 = v → g1.2.2.1 = nI (uW d).2.2.2.2 → g1.2.2.2.1 = mf d → dgOk g1.2.2.2.2.2 → sv g1.2.2.2.2.2 0 = ((uW d).1 : Int) → sv g1.2.2.2.2.2 1 = ((uW d).2.1 : Int) → sv g1.2.2.2.2.2 6 = ((uW d).2.2.1 : Int) → sv g1.2.2.2.2.2 7 = ((uW d).2.2.2.1 : Int) → Ms z g1 s.heap H locs s → lv_has ls 5 [(0, .ref (oM z)), (1, .long v)] → W p l e ({ frames := 4, cells := 0, slots := 0, locals := 107 } : Room) s m ([.ref (oM z), .long v] : List Value).toArray below meth c H locs 0 0 (MQ below (va_Qv (fun g2 => g2.1 = g.1 ∧ mS g2 d 1 (d % 2) ((d % 2 - d) / 4)) (mO z sz) (yA z sz)) ([.ref (oM z), .long v] : List Value).toArray s 0 0 (yA z sz)) (F0 m 115 ls []) := by
    intro g1 H locs ls q1 q2 q3 q4 q5 s0 s1 s6 s7 hU hl
    have hdD : g1.2.1.toInt = d := by rw [q2, hv]
    have ET : ∀ (e9 : Int64) (H : Heap) (locs : List Loc) (ls : Array Slot), e9.toInt = d % 2 → Ms z g1 s.heap H locs s → lv_has ls 5 [(0, .ref (oM z)), (1, .long v)] → W p l e ({ frames := 4, cells := 0, slots := 0, locals := 107 } : Room) s m ([.ref (oM z), .long v] : List Value).toArray below meth c H locs 0 0 (MQ below (va_Qv (fun g2 => g2.1 = g.1 ∧ mS g2 d 1 (d % 2) ((d % 2 - d) / 4)) (mO z sz) (yA z sz)) ([.ref (oM z), .long v] : List Value).toArray s 0 0 (yA z sz)) (F0 m 133 ls [.long e9]) := by
      intro e9 H locs ls he hU hl
      refine lv_lstore_n (lv' := [(3, .long e9), (0, .ref (oM z)), (1, .long v)]) hx hb d_M_begin_133 rfl hl (by decide) rfl (fun ls hl => ?_)
      refine lv_aload_n hx hb d_M_begin_134 rfl (lv_at hl 1 rfl) ?_
      refine lv_lconst (v := 1) hx hb d_M_begin_135 (by decide) ?_
      refine lv_lload_n hx hb d_M_begin_136 rfl (lv_at hl 0 rfl) ?_
      refine lv_lload_n hx hb d_M_begin_137 rfl (lv_at hl 0 rfl) ?_
      refine lv_aload_n hx hb d_M_begin_138 rfl (lv_at hl 1 rfl) ?_
      refine va_get (D := z.1) (ci := 3) (v := .long g1.2.1) (C := R_M) (T := F_M) (N := 9) hx hb hts in_M hown hU.2.1 hU.1 0 rfl rfl 1 (by decide) (hts _ k_M_9) (fun _ h9 => h9) rfl d_M_begin_139 ?_
      refine lv_topl (fun x139 ex139 => ?_)
      refine lv_lsub hx hb d_M_begin_142 ?_
      refine lv_topl (fun x142 ex142 => ?_)
      refine lv_ldc2 (v := 4) hx hb hown (hts _ k_M_59) d_M_begin_143 ?_
      have hne146 : ¬ (4 : Int64) = 0 := by decide
      refine lv_ldiv hx hb d_M_begin_146 hne146 ?_
      refine lv_topl (fun x146 ex146 => ?_)
      have t139 : x139.toInt = d := by rw [ex139]; exact hdD
      have t142 : x142.toInt = d % 2 - d := by rw [ex142, Jvm.Kit.i64_sub] <;> rw [he, t139] <;> omega
      have t146 : x146.toInt = (d % 2 - d) / 4 := by
        have h4 : d % 4 = d % 2 := by have := hd.2.2.1; omega
        rw [ex146, Jvm.Kit.i64_div (by rw [t142]; intro q; exact absurd q.2 (by decide)), t142, show (4 : Int64).toInt = 4 from rfl, Int.tdiv_eq_ediv_of_dvd]
        omega
      refine m_callv (m_run (As := [.long 1, .long e9, .long x146]) (rest := []) hx hb hml hown hts hU (cm_turn l z _ g1 hub.1 hub.2 (a := 1) (b := e9) (c9 := x146) (by decide) (by decide) (by omega) (by omega) (by omega) (by omega) q5 s0 s1) (w_M_turn_cw hts k_M_61 rfl rfl ⟨Nat.le_of_ble_eq_true rfl, Nat.le_of_ble_eq_true rfl⟩) (m_recv hU) rfl hl.1 rfl (lv_room (Nat.le_of_ble_eq_true rfl)) d_M_begin_147 ⟨Nat.zero_le _, Nat.zero_le _⟩) hU (fun g147 H locs hp hU => ?_)
      obtain ⟨f, rfl, k1, k2, k3, k4, k5, k6⟩ := hp
      rw [he] at k3 k6
      rw [t146] at k4
      have keep : ∀ i, i < 2 ∨ (5 < i ∧ i < 11) → sv f i = sv g1.2.2.2.2.2 i := fun i hi => sv_eq (dv_congr fun q hq => k2 _ (by omega))
      exact m_vret hx hb hr hlocks hsz hU ⟨q1, hdD, q3, q4, k1, ⟨(keep 0 (by omega)).trans s0, (keep 1 (by omega)).trans s1, (keep 6 (by omega)).trans s6, (keep 7 (by omega)).trans s7⟩, k3, k4, k5, k6⟩ d_M_begin_150
    refine lv_aload_n hx hb d_M_begin_115 rfl (lv_at hl 0 rfl) ?_
    refine va_get (D := z.1) (ci := 3) (v := .long g1.2.1) (C := R_M) (T := F_M) (N := 9) hx hb hts in_M hown hU.2.1 hU.1 0 rfl rfl 1 (by decide) (hts _ k_M_9) (fun _ h9 => h9) rfl d_M_begin_116 ?_
    refine lv_topl (fun x116 ex116 => ?_)
    refine lv_ldc2 (v := 2) hx hb hown (hts _ k_M_54) d_M_begin_119 ?_
    have hne122 : ¬ (2 : Int64) = 0 := by decide
    refine lv_lrem hx hb d_M_begin_122 hne122 ?_
    refine lv_topl (fun x122 ex122 => ?_)
    refine lv_lconst (v := 0) hx hb d_M_begin_123 (by decide) ?_
    refine W.lcmp hx hb d_M_begin_124 ?_
    have t122 : x122.toInt = d.tmod 2 := by rw [ex122, Jvm.Kit.i64_rem, ex116, hdD]; rfl
    refine lv_if_ne (tgt := 132) hx hb d_M_begin_125 (by decide) (fun c125 => ?_) (fun c125 => ?_)
    · have h125 : d % 2 = 1 := by
        have q : ¬ x122 = 0 := fun q => c125 ((lg_cmp_eq _ _).mpr q)
        have q2 : ¬ d.tmod 2 = 0 := fun w => q (Int64.toInt_inj.mp (by rw [t122, w]; rfl))
        have q3 : ¬ d % 2 = 0 := fun w => q2 (Int.tmod_eq_zero_of_dvd (Int.dvd_of_emod_eq_zero w))
        omega
      refine lv_lconst (v := 1) hx hb d_M_begin_132 (by decide) ?_
      exact ET 1 _ _ ls (by rw [h125]; rfl) hU hl
    · have h125 : d % 2 = 0 := by
        have q : x122 = 0 := (lg_cmp_eq _ _).mp c125
        rw [q] at t122
        exact Int.emod_eq_zero_of_dvd (Int.dvd_of_tmod_eq_zero t122.symm)
      refine lv_lconst (v := 0) hx hb d_M_begin_128 (by decide) ?_
      refine lv_goto (tgt := 133) hx hb d_M_begin_129 (by decide) ?_
      exact ET 0 _ _ ls (by rw [h125]; rfl) hU hl
  have hbo12 : (0 : Int32) = 0 ∨ (0 : Int32) = 1 := Or.inl rfl
  refine lv_aload_n hx hb d_M_begin_0 rfl (lv_at hl 0 rfl) ?_
  refine lv_lload_n hx hb d_M_begin_1 rfl (lv_at hl 1 rfl) ?_
  refine mp_D hx hb hts hown hU (hts _ k_M_9) d_M_begin_2 (fun H locs hU => ?_)
  generalize eg2 : mD g v = g2 at hU
  refine lv_aload_n hx hb d_M_begin_5 rfl (lv_at hl 0 rfl) ?_
  refine lv_iconst (v := 0) hx hb d_M_begin_6 (by decide) ?_
  refine mp_R hx hb hts hown hU (hts _ k_M_41) d_M_begin_7 (fun H locs hU => ?_)
  generalize eg7 : mR g2 0 = g7 at hU
  refine lv_aload_n hx hb d_M_begin_10 rfl (lv_at hl 0 rfl) ?_
  refine lv_iconst (v := 0) hx hb d_M_begin_11 (by decide) ?_
  refine mp_N hx hb hts hown hU (hts _ k_M_44) hbo12 d_M_begin_12 (fun H locs hU => ?_)
  generalize eg12 : mN g7 0 = g12 at hU
  refine lv_aload_n hx hb d_M_begin_15 rfl (lv_at hl 0 rfl) ?_
  refine lv_bipush (v := 6) hx hb d_M_begin_16 (by decide) ?_
  refine lv_lconst (v := 0) hx hb d_M_begin_18 (by decide) ?_
  have qf : g12.2.2.2.2.2 = g.2.2.2.2.2 := by rw [← eg12, ← eg7, ← eg2]; rfl
  refine m_callv (m_run (As := [.int 6, .long 0]) (rest := []) hx hb hml hown hts hU (cm_be l z _ g12 (to := 6) (by decide) (w := 0) (by decide) (by rw [qf]; exact hok)) (w_M_be_cw hts k_M_48 rfl rfl ⟨Nat.le_of_ble_eq_true rfl, Nat.le_of_ble_eq_true rfl⟩) (m_recv hU) rfl hl.1 rfl (lv_room (Nat.le_of_ble_eq_true rfl)) d_M_begin_19 ⟨Nat.zero_le _, Nat.zero_le _⟩) hU (fun g19 H locs hp hU => ?_)
  obtain ⟨f1, rfl, k1, k2, k3⟩ := hp
  have hU : Ms z (mF g12 f1) s.heap H locs s := hU
  refine lv_aload_n hx hb d_M_begin_22 rfl (lv_at hl 0 rfl) ?_
  refine lv_bipush (v := 7) hx hb d_M_begin_23 (by decide) ?_
  refine lv_lconst (v := 0) hx hb d_M_begin_25 (by decide) ?_
  refine m_callv (m_run (As := [.int 7, .long 0]) (rest := []) hx hb hml hown hts hU (cm_be l z _ (mF g12 f1) (to := 7) (by decide) (w := 0) (by decide) k1) (w_M_be_cw hts k_M_48 rfl rfl ⟨Nat.le_of_ble_eq_true rfl, Nat.le_of_ble_eq_true rfl⟩) (m_recv hU) rfl hl.1 rfl (lv_room (Nat.le_of_ble_eq_true rfl)) d_M_begin_26 ⟨Nat.zero_le _, Nat.zero_le _⟩) hU (fun g26 H locs hp hU => ?_)
  obtain ⟨f2, rfl, k4, k5, k6⟩ := hp
  have k5 : rsm f1 f2 7 := k5
  have hU : Ms z (mF g12 f2) s.heap H locs s := hU
  have w6 : sv f2 6 = 0 := by rw [k5.sv (by decide)]; exact sv_of_rv k3 HW_pos
  have w7 : sv f2 7 = 0 := sv_of_rv k6 HW_pos
  have qd : g12.2.1 = v := by rw [← eg12, ← eg7, ← eg2]; rfl
  have q1 : g12.1 = g.1 := by rw [← eg12, ← eg7, ← eg2]; rfl
  have qr : g12.2.2.1 = 0 := by rw [← eg12, ← eg7]; rfl
  have qm : g12.2.2.2.1 = 0 := by rw [← eg12]; rfl
  have t30 : ∀ x : Int64, x = (mF g12 f2).2.1 → x.toInt = d := fun x hx => by rw [hx, ← hv, ← qd]; rfl
  refine lv_aload_n hx hb d_M_begin_29 rfl (lv_at hl 0 rfl) ?_
  refine va_get (D := z.1) (ci := 3) (v := .long ((mF g12 f2).2.1)) (C := R_M) (T := F_M) (N := 9) hx hb hts in_M hown hU.2.1 hU.1 0 rfl rfl 1 (by decide) (hts _ k_M_9) (fun _ h9 => h9) rfl d_M_begin_30 ?_
  refine lv_topl (fun x30 ex30 => ?_)
  refine lv_lconst (v := 0) hx hb d_M_begin_33 (by decide) ?_
  refine W.lcmp hx hb d_M_begin_34 ?_
  have u30 := t30 x30 ex30
  refine lv_if_ge (tgt := 111) hx hb d_M_begin_35 (by decide) (fun c35 => ?_) (fun c35 => ?_)
  · have h35 : 0 < d := by
      have q := (lg_cmp_ge _ _).mp c35
      rw [Int64.le_iff_toInt_le, Int64.toInt_zero, u30] at q
      have h0 : d ≠ 0 := fun w => hd.2.2.2 (by rw [w]; rfl)
      omega
    have hdn : ((d.toNat : Nat) : Int) = d := by omega
    have hdo : dOk d.toNat := tk_dOk (by rw [hdn]; exact hd) (by omega)
    obtain ⟨hE, hB⟩ := hnt _ hdo
    refine lv_aload_n hx hb d_M_begin_111 rfl (lv_at hl 0 rfl) ?_
    have hvD : (mF g12 f2).2.1 = lN d.toNat := by
      apply Int64.toInt_inj.mp
      rw [pk_lT (by omega), hdn]
      exact t30 _ rfl
    refine m_callv (m_run (As := []) (rest := []) hx hb hml hown hts hU (cm_find l z _ (mF g12 f2) (D := d.toNat) hdo hE hB hvD qm k4 w6 w7) (w_M_find_cw hts k_M_56 rfl rfl ⟨Nat.le_of_ble_eq_true rfl, Nat.le_of_ble_eq_true rfl⟩) (m_recv hU) rfl hl.1 rfl (lv_room (Nat.le_of_ble_eq_true rfl)) d_M_begin_112 ⟨Nat.zero_le _, Nat.zero_le _⟩) hU (fun g112 H locs hp hU => ?_)
    obtain ⟨p1, p2, p3, p4, p5, p6, p7, p8, p9, p10⟩ := hp
    have eW : uW d = uZ d.toNat := by rw [uW, if_pos h35]
    exact E g112 _ _ ls (p1.trans q1) (p2.trans qd) (by rw [p3, eW]) (by rw [p4, mf, if_pos h35]) p6 (by rw [p7, eW]) (by rw [p8, eW]) (by rw [p9, eW]) (by rw [p10, eW]) hU hl
  · have h35 : d < 0 := by
      have q : ¬ (0 : Int64) ≤ x30 := fun q => c35 ((lg_cmp_ge _ _).mpr q)
      rw [Int64.le_iff_toInt_le, Int64.toInt_zero, u30] at q
      omega
    have h35n : ¬ 0 < d := by omega
    have eW : uW d = (tB d, uB d, 0, 0, 0) := by rw [uW, if_neg h35n]
    have eM : mf d = 0 := by rw [mf, if_neg h35n]
    have E105 : ∀ (w : Nat) (f3 : Nat → Int32) (v9 : Int64) (H : Heap) (locs : List Loc) (ls : Array Slot), w < 3 → w = uB d → v9 = lN w → dgOk f3 → sv f3 0 = (tB d : Int) → sv f3 6 = 0 → sv f3 7 = 0 → Ms z (mF g12 f3) s.heap H locs s → lv_has ls 5 [(0, .ref (oM z)), (1, .long v)] → W p l e ({ frames := 4, cells := 0, slots := 0, locals := 107 } : Room) s m ([.ref (oM z), .long v] : List Value).toArray below meth c H locs 0 0 (MQ below (va_Qv (fun g2 => g2.1 = g.1 ∧ mS g2 d 1 (d % 2) ((d % 2 - d) / 4)) (mO z sz) (yA z sz)) ([.ref (oM z), .long v] : List Value).toArray s 0 0 (yA z sz)) (F0 m 105 ls [.long v9, .int 1, .ref (oM z)]) := by
      intro w f3 v9 H locs ls hw3 hw hv9 r1 r2 r3 r4 hU hl
      subst hv9
      refine m_callv (m_run (As := [.int 1, .long (lN w)]) (rest := []) hx hb hml hown hts hU (cm_be l z _ (mF g12 f3) (to := 1) (by decide) (w := w) (by omega) r1) (w_M_be_cw hts k_M_48 rfl rfl ⟨Nat.le_of_ble_eq_true rfl, Nat.le_of_ble_eq_true rfl⟩) (m_recv hU) rfl hl.1 rfl (lv_room (Nat.le_of_ble_eq_true rfl)) d_M_begin_105 ⟨Nat.zero_le _, Nat.zero_le _⟩) hU (fun g105 H locs hp hU => ?_)
      obtain ⟨f4, rfl, k7, k8, k9⟩ := hp
      have k8 : rsm f3 f4 1 := k8
      have hU : Ms z (mF g12 f4) s.heap H locs s := hU
      refine lv_goto (tgt := 115) hx hb d_M_begin_108 (by decide) ?_
      have h2 : 4 < BB := by rw [BB_def]; decide +kernel
      exact E (mF g12 f4) _ _ ls q1 qd (by rw [eW]; exact qr) (by rw [eM]; exact qm) k7 (by rw [eW]; exact (k8.sv (by decide)).trans r2) (by rw [eW, ← hw]; exact sv_of_rv k9 (lt_HW (Nat.lt_trans (show w < 4 by omega) h2))) (by rw [eW]; exact (k8.sv (by decide)).trans r3) (by rw [eW]; exact (k8.sv (by decide)).trans r4) hU hl
    have E73 : ∀ (w : Nat) (v9 : Int64) (H : Heap) (locs : List Loc) (ls : Array Slot), w < 3 → w = tB d → v9 = lN w → Ms z (mF g12 f2) s.heap H locs s → lv_has ls 5 [(0, .ref (oM z)), (1, .long v)] → W p l e ({ frames := 4, cells := 0, slots := 0, locals := 107 } : Room) s m ([.ref (oM z), .long v] : List Value).toArray below meth c H locs 0 0 (MQ below (va_Qv (fun g2 => g2.1 = g.1 ∧ mS g2 d 1 (d % 2) ((d % 2 - d) / 4)) (mO z sz) (yA z sz)) ([.ref (oM z), .long v] : List Value).toArray s 0 0 (yA z sz)) (F0 m 73 ls [.long v9, .int 0, .ref (oM z)]) := by
      intro w v9 H locs ls hw3 hw hv9 hU hl
      subst hv9
      refine m_callv (m_run (As := [.int 0, .long (lN w)]) (rest := []) hx hb hml hown hts hU (cm_be l z _ (mF g12 f2) (to := 0) (by decide) (w := w) (by omega) k4) (w_M_be_cw hts k_M_48 rfl rfl ⟨Nat.le_of_ble_eq_true rfl, Nat.le_of_ble_eq_true rfl⟩) (m_recv hU) rfl hl.1 rfl (lv_room (Nat.le_of_ble_eq_true rfl)) d_M_begin_73 ⟨Nat.zero_le _, Nat.zero_le _⟩) hU (fun g73 H locs hp hU => ?_)
      obtain ⟨f3, rfl, k7, k8, k9⟩ := hp
      have k8 : rsm f2 f3 0 := k8
      have hU : Ms z (mF g12 f3) s.heap H locs s := hU
      have h2 : 4 < BB := by rw [BB_def]; decide +kernel
      have z0 : sv f3 0 = (tB d : Int) := by rw [← hw]; exact sv_of_rv k9 (lt_HW (Nat.lt_trans (show w < 4 by omega) h2))
      have z6 : sv f3 6 = 0 := by rw [k8.sv (by decide), w6]
      have z7 : sv f3 7 = 0 := by rw [k8.sv (by decide), w7]
      have t30b : ∀ x : Int64, x = (mF g12 f3).2.1 → x.toInt = d := fun x hx => by rw [hx, ← hv, ← qd]; rfl
      refine lv_aload_n hx hb d_M_begin_76 rfl (lv_at hl 0 rfl) ?_
      refine lv_iconst (v := 1) hx hb d_M_begin_77 (by decide) ?_
      refine lv_aload_n hx hb d_M_begin_78 rfl (lv_at hl 0 rfl) ?_
      refine va_get (D := z.1) (ci := 3) (v := .long ((mF g12 f3).2.1)) (C := R_M) (T := F_M) (N := 9) hx hb hts in_M hown hU.2.1 hU.1 0 rfl rfl 1 (by decide) (hts _ k_M_9) (fun _ h9 => h9) rfl d_M_begin_79 ?_
      refine lv_topl (fun x79 ex79 => ?_)
      refine lv_ldc2 (v := (-3)) hx hb hown (hts _ k_M_52) d_M_begin_82 ?_
      refine W.lcmp hx hb d_M_begin_85 ?_
      have u79 := t30b x79 ex79
      refine lv_if_eq (tgt := 100) hx hb d_M_begin_86 (by decide) (fun c86 => ?_) (fun c86 => ?_)
      · have h86 : d = -3 := by
          have q := (lg_cmp_eq _ _).mp c86
          rw [← u79, q]; rfl
        refine lv_lconst (v := 1) hx hb d_M_begin_100 (by decide) ?_
        refine lv_goto (tgt := 105) hx hb d_M_begin_101 (by decide) ?_
        exact E105 1 f3 1 _ _ ls (by decide) (by rw [h86]; rfl) rfl k7 z0 z6 z7 hU hl
      · have h86 : ¬ d = -3 := fun q => c86 ((lg_cmp_eq _ _).mpr (Int64.toInt_inj.mp (by rw [u79, q]; rfl)))
        refine lv_aload_n hx hb d_M_begin_89 rfl (lv_at hl 0 rfl) ?_
        refine va_get (D := z.1) (ci := 3) (v := .long ((mF g12 f3).2.1)) (C := R_M) (T := F_M) (N := 9) hx hb hts in_M hown hU.2.1 hU.1 0 rfl rfl 1 (by decide) (hts _ k_M_9) (fun _ h9 => h9) rfl d_M_begin_90 ?_
        refine lv_topl (fun x90 ex90 => ?_)
        refine lv_ldc2 (v := (-4)) hx hb hown (hts _ k_M_7) d_M_begin_93 ?_
        refine W.lcmp hx hb d_M_begin_96 ?_
        have u90 := t30b x90 ex90
        refine lv_if_ne (tgt := 104) hx hb d_M_begin_97 (by decide) (fun c97 => ?_) (fun c97 => ?_)
        · have h97 : ¬ d = -4 := fun q => c97 ((lg_cmp_eq _ _).mpr (Int64.toInt_inj.mp (by rw [u90, q]; rfl)))
          have h98 : d < -4 := by
            have h4 := hd.2.2.1
            omega
          refine lv_lconst (v := 0) hx hb d_M_begin_104 (by decide) ?_
          exact E105 0 f3 0 _ _ ls (by decide) (by rw [uB, if_pos h98]) rfl k7 z0 z6 z7 hU hl
        · have h97 : d = -4 := by
            have q := (lg_cmp_eq _ _).mp c97
            rw [← u90, q]; rfl
          refine lv_lconst (v := 1) hx hb d_M_begin_100 (by decide) ?_
          refine lv_goto (tgt := 105) hx hb d_M_begin_101 (by decide) ?_
          exact E105 1 f3 1 _ _ ls (by decide) (by rw [h97]; rfl) rfl k7 z0 z6 z7 hU hl
    refine lv_aload_n hx hb d_M_begin_38 rfl (lv_at hl 0 rfl) ?_
    refine lv_iconst (v := 0) hx hb d_M_begin_39 (by decide) ?_
    refine lv_aload_n hx hb d_M_begin_40 rfl (lv_at hl 0 rfl) ?_
    refine va_get (D := z.1) (ci := 3) (v := .long ((mF g12 f2).2.1)) (C := R_M) (T := F_M) (N := 9) hx hb hts in_M hown hU.2.1 hU.1 0 rfl rfl 1 (by decide) (hts _ k_M_9) (fun _ h9 => h9) rfl d_M_begin_41 ?_
    refine lv_topl (fun x41 ex41 => ?_)
    refine lv_ldc2 (v := (-3)) hx hb hown (hts _ k_M_52) d_M_begin_44 ?_
    refine W.lcmp hx hb d_M_begin_47 ?_
    have u41 := t30 x41 ex41
    refine lv_if_ne (tgt := 55) hx hb d_M_begin_48 (by decide) (fun c48 => ?_) (fun c48 => ?_)
    · have h48 : ¬ d = -3 := fun q => c48 ((lg_cmp_eq _ _).mpr (Int64.toInt_inj.mp (by rw [u41, q]; rfl)))
      refine lv_aload_n hx hb d_M_begin_55 rfl (lv_at hl 0 rfl) ?_
      refine va_get (D := z.1) (ci := 3) (v := .long ((mF g12 f2).2.1)) (C := R_M) (T := F_M) (N := 9) hx hb hts in_M hown hU.2.1 hU.1 0 rfl rfl 1 (by decide) (hts _ k_M_9) (fun _ h9 => h9) rfl d_M_begin_56 ?_
      refine lv_topl (fun x56 ex56 => ?_)
      refine lv_ldc2 (v := (-4)) hx hb hown (hts _ k_M_7) d_M_begin_59 ?_
      refine W.lcmp hx hb d_M_begin_62 ?_
      have u56 := t30 x56 ex56
      refine lv_if_ne (tgt := 70) hx hb d_M_begin_63 (by decide) (fun c63 => ?_) (fun c63 => ?_)
      · have h63 : ¬ d = -4 := fun q => c63 ((lg_cmp_eq _ _).mpr (Int64.toInt_inj.mp (by rw [u56, q]; rfl)))
        refine lv_ldc2 (v := 2) hx hb hown (hts _ k_M_54) d_M_begin_70 ?_
        exact E73 2 2 _ _ ls (by decide) (by rw [tB, if_neg h48, if_neg h63]) rfl hU hl
      · have h63 : d = -4 := by
          have q := (lg_cmp_eq _ _).mp c63
          rw [← u56, q]; rfl
        refine lv_lconst (v := 0) hx hb d_M_begin_66 (by decide) ?_
        refine lv_goto (tgt := 73) hx hb d_M_begin_67 (by decide) ?_
        exact E73 0 0 _ _ ls (by decide) (by rw [tB, if_neg h48, if_pos h63]) rfl hU hl
    · have h48 : d = -3 := by
        have q := (lg_cmp_eq _ _).mp c48
        rw [← u41, q]; rfl
      refine lv_lconst (v := 1) hx hb d_M_begin_51 (by decide) ?_
      refine lv_goto (tgt := 73) hx hb d_M_begin_52 (by decide) ?_
      exact E73 1 1 _ _ ls (by decide) (by rw [tB, if_pos h48]) rfl hU hl
end
section
/-! UnitFinderModel: its public methods -/
theorem mS.keep {g : SM} {d a b c : Int} {f : Nat → Int32} (h : mS g d a b c) (h1 : dgOk f) (h2 : rsm g.2.2.2.2.2 f 10) : mS (mF g f) d a b c := by
  obtain ⟨p1, p2, p3, p4, ⟨p5, p6, p7, p8⟩, p9, p10, p11, p12⟩ := h
  exact ⟨p1, p2, p3, h1, ⟨(h2.sv (by decide)).trans p5, (h2.sv (by decide)).trans p6, (h2.sv (by decide)).trans p7, (h2.sv (by decide)).trans p8⟩, (h2.sv (by decide)).trans p9, (h2.sv (by decide)).trans p10, (h2.sv (by decide)).trans p11, (h2.sv (by decide)).trans p12⟩
theorem mS.code {g : SM} {d a b c : Int} {v : Int32} (h : mS g d a b c) : mS (mC g v) d a b c := h
theorem mS.xs {g : SM} {d a b c : Int} {k : Nat} {v : Int64} (h : mS g d a b c) : mS (mX g k v) d a b c := h
set_option maxHeartbeats 4000000 in
set_option maxRecDepth 100000 in
theorem cm_thrown (l : Launch) (z : YM) (sz : Nat) (g : SM)  : Met l y_M_thrown (zw y_M_thrown b_M_thrown 1 (some .int)) { frames := 0, cells := 0, slots := 0, locals := 0 } (va_Pc [.ref (oM z)] (mI z g sz)) (va_Qi (fun r g2 => g2 = g ∧ r = g.1) (mO z sz) (yA z sz)) 0 0 (yA z sz) := by
  refine m_ofW (by decide) (Nat.le_of_ble_eq_true rfl) (fun p e s m below meth c hx hb hr hml hown hts hlocks hname hsz ls hU hl => ?_)
  have hl : lv_has ls 1 [(0, .ref (oM z))] := hl
  refine lv_aload_n hx hb d_M_thrown_0 rfl (lv_at hl 0 rfl) ?_
  refine va_get (D := z.1) (ci := 3) (v := .int g.1) (C := R_M) (T := F_M) (N := 9) hx hb hts in_M hown hU.2.1 hU.1 0 rfl rfl 0 (by decide) (hts _ k_M_23) (fun _ h9 => h9) rfl d_M_thrown_1 ?_
  refine lv_topi (fun x1 ex1 => ?_)
  exact m_iret hx hb hr hlocks hsz hU ⟨rfl, ex1⟩ d_M_thrown_4
set_option maxHeartbeats 4000000 in
set_option maxRecDepth 100000 in
theorem cm_raise (l : Launch) (z : YM) (sz : Nat) (g : SM) (k : Int32) : Met l y_M_raise (zw y_M_raise b_M_raise 2 (some .int)) { frames := 0, cells := 0, slots := 0, locals := 0 } (va_Pc [.ref (oM z), .int k] (mI z g sz)) (va_Qi (fun r g2 => g2 = mC g k) (mO z sz) (yA z sz)) 0 0 (yA z sz) := by
  refine m_ofW (by decide) (Nat.le_of_ble_eq_true rfl) (fun p e s m below meth c hx hb hr hml hown hts hlocks hname hsz ls hU hl => ?_)
  have hl : lv_has ls 2 [(0, .ref (oM z)), (1, .int k)] := hl
  refine lv_aload_n hx hb d_M_raise_0 rfl (lv_at hl 0 rfl) ?_
  refine lv_iload_n hx hb d_M_raise_1 rfl (lv_at hl 1 rfl) ?_
  refine mp_C hx hb hts hown hU (hts _ k_M_23) d_M_raise_2 (fun H locs hU => ?_)
  generalize eg2 : mC g k = g2 at hU
  refine lv_iconst (v := 0) hx hb d_M_raise_5 (by decide) ?_
  exact m_iret hx hb hr hlocks hsz hU (by rw [← eg2]) d_M_raise_6
set_option maxHeartbeats 4000000 in
set_option maxRecDepth 100000 in
theorem cm_isBelow2 (l : Launch) (z : YM) (sz : Nat) (g : SM) {i9 : Int32} {i : Nat} (h9 : i9 = nI i) (hi : i < 11) : Met l y_M_isBelow (zw y_M_isBelow b_M_isBelow 2 (some .boolean)) { frames := 1, cells := 0, slots := 0, locals := 22 } (va_Pc [.ref (oM z), .int i9] (mI z g sz)) (va_Qi (fun r g2 => g2 = g ∧ r = (if 32767 < (g.2.2.2.2.2 (1100 * i + 1099)).toInt then 1 else 0)) (mO z sz) (yA z sz)) 0 0 (yA z sz) := by
  subst h9
  exact cm_isBelow l z sz g hi
set_option maxHeartbeats 4000000 in
set_option maxRecDepth 100000 in
theorem cm_length2 (l : Launch) (z : YM) (sz : Nat) (g : SM) {i9 : Int32} {i : Nat} (h9 : i9 = nI i) (hi : i < 11) : Met l y_M_length (zw y_M_length b_M_length 3 (some .int)) { frames := 1, cells := 0, slots := 0, locals := 22 } (va_Pc [.ref (oM z), .int i9] (mI z g sz)) (va_Qi (fun r g2 => g2 = g ∧ ∃ n, n ≤ 1100 ∧ r = nI n ∧ (∀ k, n ≤ k → k < 1100 → g.2.2.2.2.2 (1100 * i + k) = 0) ∧ (n = 0 ∨ g.2.2.2.2.2 (1100 * i + (n - 1)) ≠ 0)) (mO z sz) (yA z sz)) 0 0 (yA z sz) := by
  subst h9
  exact cm_length l z sz g hi
set_option maxHeartbeats 4000000 in
set_option maxRecDepth 100000 in
theorem cm_bitsOf2 (l : Launch) (z : YM) (sz : Nat) (g : SM) {i9 : Int32} {i : Nat} (h9 : i9 = nI i) (hi : i < 10) (hok : dgOk g.2.2.2.2.2) : Met l y_M_bitsOf (zw y_M_bitsOf b_M_bitsOf 5 (some .int)) { frames := 3, cells := 0, slots := 0, locals := 76 } (va_Pc [.ref (oM z), .int i9] (mI z g sz)) (va_Qi (fun r g2 => ∃ f, g2 = mF g f ∧ dgOk f ∧ rsm g.2.2.2.2.2 f 10 ∧ r = nI (bl (sv g.2.2.2.2.2 i).natAbs)) (mO z sz) (yA z sz)) 0 0 (yA z sz) := by
  subst h9
  exact cm_bitsOf l z sz g hi hok
set_option maxHeartbeats 4000000 in
set_option maxRecDepth 100000 in
theorem cm_sized2 (l : Launch) (z : YM) (sz : Nat) (g : SM) {i9 : Int32} {i : Nat} (h9 : i9 = nI i) (hi : i < 10) (hok : dgOk g.2.2.2.2.2) : Met l y_M_sized (zw y_M_sized b_M_sized 2 (some .int)) { frames := 2, cells := 0, slots := 0, locals := 55 } (va_Pc [.ref (oM z), .int i9] (mI z g sz)) (va_Qi (fun r g2 => ∃ f n, g2 = mF g f ∧ dgOk f ∧ rsm g.2.2.2.2.2 f 10 ∧ rv f 10 = (sv g.2.2.2.2.2 i).natAbs ∧ r = nI n ∧ n ≤ 1100 ∧ (∀ k, n ≤ k → k < 1100 → f (1100 * 10 + k) = 0) ∧ (n = 0 ∨ f (1100 * 10 + (n - 1)) ≠ 0)) (mO z sz) (yA z sz)) 0 0 (yA z sz) := by
  subst h9
  exact cm_sized l z sz g hi hok
set_option maxHeartbeats 4000000 in
set_option maxRecDepth 100000 in
theorem cm_left2 (l : Launch) (z : YM) (sz : Nat) (g : SM) {i9 : Int32} {m9 : Int64} {i : Nat} (h9 : i9 = nI i) (hi : i < 10) (hok : dgOk g.2.2.2.2.2) {M : Nat} (h8 : m9 = lN M) (hM0 : 0 < M) (hM : M < 2 ^ 31) : Met l y_M_left (zw y_M_left b_M_left 7 (some .long)) { frames := 3, cells := 0, slots := 0, locals := 76 } (va_Pc [.ref (oM z), .int i9, .long m9] (mI z g sz)) (va_Ql (fun r g2 => ∃ f, g2 = mF g f ∧ dgOk f ∧ rsm g.2.2.2.2.2 f 10 ∧ r.toInt = sv g.2.2.2.2.2 i % (M : Int)) (mO z sz) (yA z sz)) 0 0 (yA z sz) := by
  subst h9
  subst h8
  exact cm_left l z sz g hi hok hM0 hM
set_option maxHeartbeats 4000000 in
set_option maxRecDepth 100000 in
theorem cm_get2 (l : Launch) (z : YM) (sz : Nat) (g : SM) {k9 : Int32} {i k : Nat} (hi : i < 11) (h9 : k9 = nI k) (hk : k < 1100) : Met l y_M_get (zw y_M_get b_M_get 3 (some .int)) { frames := 0, cells := 0, slots := 0, locals := 0 } (va_Pc [.ref (oM z), .int (nI i), .int k9] (mI z g sz)) (va_Qi (fun r g2 => g2 = g ∧ r = g.2.2.2.2.2 (1100 * i + k)) (mO z sz) (yA z sz)) 0 0 (yA z sz) := by
  subst h9
  exact cm_get l z sz g hi hk
set_option maxHeartbeats 4000000 in
set_option maxRecDepth 100000 in
theorem cm_bits (l : Launch) (z : YM) (sz : Nat) (g : SM) (i : Int32) (hok : dgOk g.2.2.2.2.2) : Met l y_M_bits (zw y_M_bits b_M_bits 2 (some .int)) { frames := 4, cells := 0, slots := 0, locals := 100 } (va_Pc [.ref (oM z), .int i] (mI z g sz)) (va_Qi (fun r g2 => ((0 ≤ i.toInt ∧ i.toInt ≤ 7) → (∃ f, g2 = mF (mC g 0) f ∧ dgOk f ∧ rsm g.2.2.2.2.2 f 10) ∧ r = nI (bl (sv g.2.2.2.2.2 i.toInt.toNat).natAbs)) ∧ (¬ (0 ≤ i.toInt ∧ i.toInt ≤ 7) → g2 = mC g 1)) (mO z sz) (yA z sz)) 0 0 (yA z sz) := by
  refine m_ofW (by decide) (Nat.le_of_ble_eq_true rfl) (fun p e s m below meth c hx hb hr hml hown hts hlocks hname hsz ls hU hl => ?_)
  have hl : lv_has ls 2 [(0, .ref (oM z)), (1, .int i)] := hl
  refine lv_aload_n hx hb d_M_bits_0 rfl (lv_at hl 0 rfl) ?_
  refine lv_iload_n hx hb d_M_bits_1 rfl (lv_at hl 1 rfl) ?_
  refine lv_i2l hx hb d_M_bits_2 rfl ?_
  refine lv_topl (fun x2 ex2 => ?_)
  refine lv_lconst (v := 0) hx hb d_M_bits_3 (by decide) ?_
  refine lv_ldc2 (v := 7) hx hb hown (hts _ k_M_134) d_M_bits_4 ?_
  have t2 : x2.toInt = i.toInt := by rw [ex2]; exact Jvm.Kit.i64_of_i32 i
  refine pr_call (As := [.long x2, .long 0, .long 7]) (rest := [.ref (oM z)]) hx hb hml hown hts (cm_in l x2 0 7) (w_M_in_cw hts k_M_88 rfl rfl ⟨Nat.le_of_ble_eq_true rfl, Nat.le_of_ble_eq_true rfl⟩) rfl hl.1 rfl (lv_room (Nat.le_of_ble_eq_true rfl)) d_M_bits_7 ⟨Nat.zero_le _, Nat.zero_le _⟩ ?_
  refine lv_topi (fun x7 ex7 => ?_)
  rw [t2, show (0 : Int64).toInt = 0 from rfl, show (7 : Int64).toInt = 7 from rfl] at ex7
  refine lv_if_eq (tgt := 17) hx hb d_M_bits_10 (by decide) (fun c10 => ?_) (fun c10 => ?_)
  · have h10 : ¬ (0 ≤ i.toInt ∧ i.toInt ≤ 7) := fun q => by rw [ex7, if_pos q] at c10; exact absurd c10 (by decide)
    refine lv_iconst (v := 1) hx hb d_M_bits_17 (by decide) ?_
    refine mp_C hx hb hts hown hU (hts _ k_M_23) d_M_bits_18 (fun H locs hU => ?_)
    generalize eg18 : mC g 1 = g18 at hU
    refine lv_aload_n hx hb d_M_bits_21 rfl (lv_at hl 0 rfl) ?_
    refine va_get (D := z.1) (ci := 3) (v := .int g18.1) (C := R_M) (T := F_M) (N := 9) hx hb hts in_M hown hU.2.1 hU.1 0 rfl rfl 0 (by decide) (hts _ k_M_23) (fun _ h9 => h9) rfl d_M_bits_22 ?_
    refine lv_topi (fun x22 ex22 => ?_)
    have e22 : x22 = 1 := by rw [ex22, ← eg18]; rfl
    refine lv_if_le (tgt := 32) hx hb d_M_bits_25 (by decide) (fun c25 => ?_) (fun c25 => ?_)
    · exact absurd c25 (by rw [e22]; decide)
    · refine lv_iconst (v := 0) hx hb d_M_bits_28 (by decide) ?_
      refine lv_goto (tgt := 37) hx hb d_M_bits_29 (by decide) ?_
      exact m_iret hx hb hr hlocks hsz hU ⟨fun q => absurd q h10, fun _ => by first | exact eg18.symm | rfl⟩ d_M_bits_37
  · have h10 : 0 ≤ i.toInt ∧ i.toInt ≤ 7 := Classical.byContradiction fun q => c10 (by rw [ex7, if_neg q])
    refine lv_iconst (v := 0) hx hb d_M_bits_13 (by decide) ?_
    refine lv_goto (tgt := 18) hx hb d_M_bits_14 (by decide) ?_
    refine mp_C hx hb hts hown hU (hts _ k_M_23) d_M_bits_18 (fun H locs hU => ?_)
    generalize eg18 : mC g 0 = g18 at hU
    refine lv_aload_n hx hb d_M_bits_21 rfl (lv_at hl 0 rfl) ?_
    refine va_get (D := z.1) (ci := 3) (v := .int g18.1) (C := R_M) (T := F_M) (N := 9) hx hb hts in_M hown hU.2.1 hU.1 0 rfl rfl 0 (by decide) (hts _ k_M_23) (fun _ h9 => h9) rfl d_M_bits_22 ?_
    refine lv_topi (fun x22 ex22 => ?_)
    have e22 : x22 = 0 := by rw [ex22, ← eg18]; rfl
    obtain ⟨j, ej⟩ : ∃ j, j = i.toInt.toNat := ⟨_, rfl⟩
    have hij : i = nI j := by apply Int32.toInt_inj.mp; rw [nI_toInt (by omega)]; omega
    have hokc : dgOk g18.2.2.2.2.2 := by rw [← eg18]; exact hok
    refine lv_if_le (tgt := 32) hx hb d_M_bits_25 (by decide) (fun c25 => ?_) (fun c25 => ?_)
    · refine lv_aload_n hx hb d_M_bits_32 rfl (lv_at hl 0 rfl) ?_
      refine lv_iload_n hx hb d_M_bits_33 rfl (lv_at hl 1 rfl) ?_
      refine m_calli (m_run (As := [.int i]) (rest := []) hx hb hml hown hts hU (cm_bitsOf2 l z _ g18 (i := j) hij (by omega) hokc) (w_M_bitsOf_cw hts k_M_92 rfl rfl ⟨Nat.le_of_ble_eq_true rfl, Nat.le_of_ble_eq_true rfl⟩) (m_recv hU) rfl hl.1 rfl (lv_room (Nat.le_of_ble_eq_true rfl)) d_M_bits_34 ⟨Nat.zero_le _, Nat.zero_le _⟩) hU (fun r34 g34 H locs hp hU => ?_)
      obtain ⟨f, k1, k2, k3, k4⟩ := hp
      exact m_iret hx hb hr hlocks hsz hU ⟨fun _ => ⟨⟨f, by rw [k1]; try rw [← eg18], k2, by rw [← eg18] at k3; exact k3⟩, by rw [k4, ← ej, ← eg18]; rfl⟩, fun q => absurd h10 q⟩ d_M_bits_37
    · exact absurd (by rw [e22]; decide) c25
end
section
/-! sign -/
theorem sv_ng {f : Nat → Int32} {i : Nat} (h : ¬ rv f i < HW) (h2 : rv f i < WW) : sv f i < 0 := by
  unfold sv
  rw [if_neg h]
  have h3 : (rv f i : Int) < (WW : Int) := Int.ofNat_lt.mpr h2
  generalize (rv f i : Int) = R at h3
  generalize (WW : Int) = Q at h3
  omega
set_option maxHeartbeats 4000000 in
set_option maxRecDepth 100000 in
theorem cm_sign (l : Launch) (z : YM) (sz : Nat) (g : SM) (i : Int32) (hok : dgOk g.2.2.2.2.2) : Met l y_M_sign (zw y_M_sign b_M_sign 2 (some .int)) { frames := 2, cells := 0, slots := 0, locals := 44 } (va_Pc [.ref (oM z), .int i] (mI z g sz)) (va_Qi (fun r g2 => ((0 ≤ i.toInt ∧ i.toInt ≤ 7) → g2 = mC g 0 ∧ r.toInt = (sv g.2.2.2.2.2 i.toInt.toNat).sign) ∧ (¬ (0 ≤ i.toInt ∧ i.toInt ≤ 7) → g2 = mC g 1)) (mO z sz) (yA z sz)) 0 0 (yA z sz) := by
  refine m_ofW (by decide) (Nat.le_of_ble_eq_true rfl) (fun p e s m below meth c hx hb hr hml hown hts hlocks hname hsz ls hU hl => ?_)
  have hl : lv_has ls 2 [(0, .ref (oM z)), (1, .int i)] := hl
  refine lv_aload_n hx hb d_M_sign_0 rfl (lv_at hl 0 rfl) ?_
  refine lv_iload_n hx hb d_M_sign_1 rfl (lv_at hl 1 rfl) ?_
  refine lv_i2l hx hb d_M_sign_2 rfl ?_
  refine lv_topl (fun x2 ex2 => ?_)
  refine lv_lconst (v := 0) hx hb d_M_sign_3 (by decide) ?_
  refine lv_ldc2 (v := 7) hx hb hown (hts _ k_M_134) d_M_sign_4 ?_
  have t2 : x2.toInt = i.toInt := by rw [ex2]; exact Jvm.Kit.i64_of_i32 i
  refine pr_call (As := [.long x2, .long 0, .long 7]) (rest := [.ref (oM z)]) hx hb hml hown hts (cm_in l x2 0 7) (w_M_in_cw hts k_M_88 rfl rfl ⟨Nat.le_of_ble_eq_true rfl, Nat.le_of_ble_eq_true rfl⟩) rfl hl.1 rfl (lv_room (Nat.le_of_ble_eq_true rfl)) d_M_sign_7 ⟨Nat.zero_le _, Nat.zero_le _⟩ ?_
  refine lv_topi (fun x7 ex7 => ?_)
  rw [t2, show (0 : Int64).toInt = 0 from rfl, show (7 : Int64).toInt = 7 from rfl] at ex7
  refine lv_if_eq (tgt := 17) hx hb d_M_sign_10 (by decide) (fun c10 => ?_) (fun c10 => ?_)
  · have h10 : ¬ (0 ≤ i.toInt ∧ i.toInt ≤ 7) := fun q => by rw [ex7, if_pos q] at c10; exact absurd c10 (by decide)
    refine lv_iconst (v := 1) hx hb d_M_sign_17 (by decide) ?_
    refine mp_C hx hb hts hown hU (hts _ k_M_23) d_M_sign_18 (fun H locs hU => ?_)
    generalize eg18 : mC g 1 = g18 at hU
    refine lv_aload_n hx hb d_M_sign_21 rfl (lv_at hl 0 rfl) ?_
    refine va_get (D := z.1) (ci := 3) (v := .int g18.1) (C := R_M) (T := F_M) (N := 9) hx hb hts in_M hown hU.2.1 hU.1 0 rfl rfl 0 (by decide) (hts _ k_M_23) (fun _ h9 => h9) rfl d_M_sign_22 ?_
    refine lv_topi (fun x22 ex22 => ?_)
    have e22 : x22 = 1 := by rw [ex22, ← eg18]; rfl
    refine lv_if_le (tgt := 30) hx hb d_M_sign_25 (by decide) (fun c25 => ?_) (fun c25 => ?_)
    · exact absurd c25 (by rw [e22]; decide)
    · refine lv_iconst (v := 0) hx hb d_M_sign_28 (by decide) ?_
      exact m_iret hx hb hr hlocks hsz hU ⟨fun q => absurd q h10, fun _ => by first | exact eg18.symm | rfl⟩ d_M_sign_29
  · have h10 : 0 ≤ i.toInt ∧ i.toInt ≤ 7 := Classical.byContradiction fun q => c10 (by rw [ex7, if_neg q])
    refine lv_iconst (v := 0) hx hb d_M_sign_13 (by decide) ?_
    refine lv_goto (tgt := 18) hx hb d_M_sign_14 (by decide) ?_
    refine mp_C hx hb hts hown hU (hts _ k_M_23) d_M_sign_18 (fun H locs hU => ?_)
    generalize eg18 : mC g 0 = g18 at hU
    refine lv_aload_n hx hb d_M_sign_21 rfl (lv_at hl 0 rfl) ?_
    refine va_get (D := z.1) (ci := 3) (v := .int g18.1) (C := R_M) (T := F_M) (N := 9) hx hb hts in_M hown hU.2.1 hU.1 0 rfl rfl 0 (by decide) (hts _ k_M_23) (fun _ h9 => h9) rfl d_M_sign_22 ?_
    refine lv_topi (fun x22 ex22 => ?_)
    have e22 : x22 = 0 := by rw [ex22, ← eg18]; rfl
    obtain ⟨j, ej⟩ : ∃ j, j = i.toInt.toNat := ⟨_, rfl⟩
    have hij : i = nI j := by apply Int32.toInt_inj.mp; rw [nI_toInt (by omega)]; omega
    have hokc : dgOk g18.2.2.2.2.2 := by rw [← eg18]; exact hok
    have hf : g18.2.2.2.2.2 = g.2.2.2.2.2 := by rw [← eg18]; rfl
    refine lv_if_le (tgt := 30) hx hb d_M_sign_25 (by decide) (fun c25 => ?_) (fun c25 => ?_)
    · refine lv_aload_n hx hb d_M_sign_30 rfl (lv_at hl 0 rfl) ?_
      refine lv_iload_n hx hb d_M_sign_31 rfl (lv_at hl 1 rfl) ?_
      refine m_calli (m_run (As := [.int i]) (rest := []) hx hb hml hown hts hU (cm_isBelow2 l z _ g18 (i := j) hij (by omega)) (w_M_isBelow_cw hts k_M_123 rfl rfl ⟨Nat.le_of_ble_eq_true rfl, Nat.le_of_ble_eq_true rfl⟩) (m_recv hU) rfl hl.1 rfl (lv_room (Nat.le_of_ble_eq_true rfl)) d_M_sign_32 ⟨Nat.zero_le _, Nat.zero_le _⟩) hU (fun r32 g32 H locs hp hU => ?_)
      obtain ⟨q1, q2⟩ := hp
      rw [q1] at hU
      rw [dg_int (hokc _ (by omega))] at q2
      have htop := top_iff (f := g18.2.2.2.2.2) (i := j) (by omega) hokc
      have hrl := rv_lt (f := g18.2.2.2.2.2) (i := j) (by omega) hokc
      refine lv_if_eq (tgt := 42) hx hb d_M_sign_35 (by decide) (fun c35 => ?_) (fun c35 => ?_)
      · have h5 : rv g18.2.2.2.2.2 j < HW := by
          apply Classical.byContradiction
          intro w
          rw [q2, if_pos (by have := htop.mpr (by omega); omega)] at c35
          exact absurd c35 (by decide)
        refine lv_aload_n hx hb d_M_sign_42 rfl (lv_at hl 0 rfl) ?_
        refine lv_iload_n hx hb d_M_sign_43 rfl (lv_at hl 1 rfl) ?_
        refine m_calli (m_run (As := [.int i]) (rest := []) hx hb hml hown hts hU (cm_length2 l z _ g18 (i := j) hij (by omega)) (w_M_length_cw hts k_M_37 rfl rfl ⟨Nat.le_of_ble_eq_true rfl, Nat.le_of_ble_eq_true rfl⟩) (m_recv hU) rfl hl.1 rfl (lv_room (Nat.le_of_ble_eq_true rfl)) d_M_sign_44 ⟨Nat.zero_le _, Nat.zero_le _⟩) hU (fun r44 g44 H locs hp hU => ?_)
        obtain ⟨q3, n, k1, k2, k3, k4⟩ := hp
        rw [q3] at hU
        have hV : rv g18.2.2.2.2.2 j = dv g18.2.2.2.2.2 j n := dv_zero k1 k3
        have hsv : sv g18.2.2.2.2.2 j = (rv g18.2.2.2.2.2 j : Int) := by rw [sv, if_pos h5]
        refine lv_if_le (tgt := 54) hx hb d_M_sign_47 (by decide) (fun c47 => ?_) (fun c47 => ?_)
        · have h47 : n = 0 := by
            rw [k2] at c47
            exact Nat.eq_zero_of_not_pos (fun q => nI_nle q (by omega) c47)
          refine lv_iconst (v := 0) hx hb d_M_sign_54 (by decide) ?_
          exact m_iret hx hb hr hlocks hsz hU ⟨fun _ => ⟨by first | exact eg18.symm | rfl, by rw [← ej, ← hf, hsv, hV, h47]; rfl⟩, fun q => absurd h10 q⟩ d_M_sign_55
        · have h47 : 0 < n := Nat.pos_of_ne_zero (fun q => c47 (by rw [k2, q]; decide))
          refine lv_iconst (v := 1) hx hb d_M_sign_50 (by decide) ?_
          refine lv_goto (tgt := 55) hx hb d_M_sign_51 (by decide) ?_
          have hpos : 0 < rv g18.2.2.2.2.2 j := by
            rw [hV]
            obtain ⟨t, rfl⟩ : ∃ t, n = t + 1 := ⟨n - 1, by omega⟩
            rw [dv_s]
            have h9 : wn (g18.2.2.2.2.2 (1100 * j + t)) ≠ 0 := fun q => k4.resolve_left (by omega) (wn_inj (by rw [Nat.add_sub_cancel]; exact q.trans wn_0.symm))
            exact Nat.lt_of_lt_of_le (Nat.mul_pos (Nat.pos_of_ne_zero h9) (Nat.pow_pos (by decide))) (Nat.le_add_left _ _)
          exact m_iret hx hb hr hlocks hsz hU ⟨fun _ => ⟨by first | exact eg18.symm | rfl, by rw [← ej, ← hf, hsv, Int.sign_eq_one_of_pos (Int.ofNat_lt.mpr hpos)]; rfl⟩, fun q => absurd h10 q⟩ d_M_sign_55
      · have h5 : ¬ rv g18.2.2.2.2.2 j < HW := by
          intro w
          exact c35 (by rw [q2, if_neg (fun q => by have := htop.mp (by omega); omega)])
        refine lv_iconst (v := (-1)) hx hb d_M_sign_38 (by decide) ?_
        refine lv_goto (tgt := 55) hx hb d_M_sign_39 (by decide) ?_
        exact m_iret hx hb hr hlocks hsz hU ⟨fun _ => ⟨by first | exact eg18.symm | rfl, by rw [← ej, ← hf, Int.sign_eq_neg_one_of_neg (sv_ng h5 hrl)]; rfl⟩, fun q => absurd h10 q⟩ d_M_sign_55
    · exact absurd (by rw [e22]; decide) c25
end
section
/-! residue -/
set_option maxHeartbeats 4000000 in
set_option maxRecDepth 100000 in
theorem cm_residue (l : Launch) (z : YM) (sz : Nat) (g : SM) (i m9 : Int32) (hok : dgOk g.2.2.2.2.2) : Met l y_M_residue (zw y_M_residue b_M_residue 3 (some .int)) { frames := 4, cells := 0, slots := 0, locals := 102 } (va_Pc [.ref (oM z), .int i, .int m9] (mI z g sz)) (va_Qi (fun r g2 => (¬ (0 ≤ i.toInt ∧ i.toInt ≤ 7) → g2 = mC g 1) ∧ ((0 ≤ i.toInt ∧ i.toInt ≤ 7) → m9.toInt < 1 → g2 = mC g 2) ∧ ((0 ≤ i.toInt ∧ i.toInt ≤ 7) → 1 ≤ m9.toInt → (∃ f, g2 = mF (mC g 0) f ∧ dgOk f ∧ rsm g.2.2.2.2.2 f 10) ∧ r.toInt = sv g.2.2.2.2.2 i.toInt.toNat % m9.toInt)) (mO z sz) (yA z sz)) 0 0 (yA z sz) := by
  refine m_ofW (by decide) (Nat.le_of_ble_eq_true rfl) (fun p e s m below meth c hx hb hr hml hown hts hlocks hname hsz ls hU hl => ?_)
  have hl : lv_has ls 3 [(0, .ref (oM z)), (1, .int i), (2, .int m9)] := hl
  refine lv_iload_n hx hb d_M_residue_0 rfl (lv_at hl 1 rfl) ?_
  refine lv_i2l hx hb d_M_residue_1 rfl ?_
  refine lv_topl (fun x1 ex1 => ?_)
  refine lv_lconst (v := 0) hx hb d_M_residue_2 (by decide) ?_
  refine lv_ldc2 (v := 7) hx hb hown (hts _ k_M_134) d_M_residue_3 ?_
  have t1 : x1.toInt = i.toInt := by rw [ex1]; exact Jvm.Kit.i64_of_i32 i
  refine pr_call (As := [.long x1, .long 0, .long 7]) (rest := []) hx hb hml hown hts (cm_in l x1 0 7) (w_M_in_cw hts k_M_88 rfl rfl ⟨Nat.le_of_ble_eq_true rfl, Nat.le_of_ble_eq_true rfl⟩) rfl hl.1 rfl (lv_room (Nat.le_of_ble_eq_true rfl)) d_M_residue_6 ⟨Nat.zero_le _, Nat.zero_le _⟩ ?_
  refine lv_topi (fun x6 ex6 => ?_)
  rw [t1, show (0 : Int64).toInt = 0 from rfl, show (7 : Int64).toInt = 7 from rfl] at ex6
  refine lv_if_ne (tgt := 18) hx hb d_M_residue_9 (by decide) (fun c9 => ?_) (fun c9 => ?_)
  · have h9 : 0 ≤ i.toInt ∧ i.toInt ≤ 7 := Classical.byContradiction fun q => c9 (by rw [ex6, if_neg q])
    refine lv_iload_n hx hb d_M_residue_18 rfl (lv_at hl 2 rfl) ?_
    refine lv_iconst (v := 1) hx hb d_M_residue_19 (by decide) ?_
    refine lv_icmp_ge (tgt := 29) hx hb d_M_residue_20 (by decide) (fun c20 => ?_) (fun c20 => ?_)
    · have h20 : 1 ≤ m9.toInt := Int32.le_iff_toInt_le.mp c20
      obtain ⟨j, ej⟩ : ∃ j, j = i.toInt.toNat := ⟨_, rfl⟩
      have hij : i = nI j := by apply Int32.toInt_inj.mp; rw [nI_toInt (by omega)]; omega
      obtain ⟨M, eM⟩ : ∃ M, M = m9.toInt.toNat := ⟨_, rfl⟩
      have hmr := i32_rng m9
      refine lv_aload_n hx hb d_M_residue_29 rfl (lv_at hl 0 rfl) ?_
      refine lv_iconst (v := 0) hx hb d_M_residue_30 (by decide) ?_
      refine mp_C hx hb hts hown hU (hts _ k_M_23) d_M_residue_31 (fun H locs hU => ?_)
      generalize eg31 : mC g 0 = g31 at hU
      refine lv_aload_n hx hb d_M_residue_34 rfl (lv_at hl 0 rfl) ?_
      refine lv_iload_n hx hb d_M_residue_35 rfl (lv_at hl 1 rfl) ?_
      refine lv_iload_n hx hb d_M_residue_36 rfl (lv_at hl 2 rfl) ?_
      refine lv_i2l hx hb d_M_residue_37 rfl ?_
      refine lv_topl (fun x37 ex37 => ?_)
      have hokc : dgOk g31.2.2.2.2.2 := by rw [← eg31]; exact hok
      have e37 : x37 = lN M := by
        apply Int64.toInt_inj.mp
        rw [ex37, Jvm.Kit.i64_of_i32, pk_lT (by omega)]
        omega
      refine m_calll (m_run (As := [.int i, .long x37]) (rest := []) hx hb hml hown hts hU (cm_left2 l z _ g31 (i := j) hij (by omega) hokc (M := M) e37 (by omega) (by omega)) (w_M_left_cw hts k_M_115 rfl rfl ⟨Nat.le_of_ble_eq_true rfl, Nat.le_of_ble_eq_true rfl⟩) (m_recv hU) rfl hl.1 rfl (lv_room (Nat.le_of_ble_eq_true rfl)) d_M_residue_38 ⟨Nat.zero_le _, Nat.zero_le _⟩) hU (fun r38 g38 H locs hp hU => ?_)
      obtain ⟨f, k1, k2, k3, k4⟩ := hp
      refine lv_l2i hx hb d_M_residue_41 rfl ?_
      refine lv_topi (fun x41 ex41 => ?_)
      have hb1 := Int.emod_nonneg (sv g31.2.2.2.2.2 j) (show (M : Int) ≠ 0 by omega)
      have hb2 := Int.emod_lt_of_pos (sv g31.2.2.2.2.2 j) (show (0 : Int) < (M : Int) by omega)
      have t41 : x41.toInt = sv g31.2.2.2.2.2 j % (M : Int) := by
        rw [ex41]
        clear eg31 ex41
        generalize sv g31.2.2.2.2.2 j % (M : Int) = A at k4 hb1 hb2
        rw [← k4] at hb1 hb2 ⊢
        exact Jvm.Kit.i32_of_i64 (by omega) (by omega)
      exact m_iret hx hb hr hlocks hsz hU ⟨fun q => absurd h9 q, fun _ q => absurd h20 (by omega), fun _ _ => ⟨⟨f, by rw [k1]; try rw [← eg31], k2, by rw [← eg31] at k3; exact k3⟩, by
        rw [t41, ← ej, ← eg31, show m9.toInt = (M : Int) by omega]; rfl⟩⟩ d_M_residue_42
    · have h20 : ¬ 1 ≤ m9.toInt := fun q => c20 (Int32.le_iff_toInt_le.mpr q)
      refine lv_aload_n hx hb d_M_residue_23 rfl (lv_at hl 0 rfl) ?_
      refine lv_iconst (v := 2) hx hb d_M_residue_24 (by decide) ?_
      refine m_calli (m_run (As := [.int 2]) (rest := []) hx hb hml hown hts hU (cm_raise l z _ g 2) (w_M_raise_cw hts k_M_138 rfl rfl ⟨Nat.le_of_ble_eq_true rfl, Nat.le_of_ble_eq_true rfl⟩) (m_recv hU) rfl hl.1 rfl (lv_room (Nat.le_of_ble_eq_true rfl)) d_M_residue_25 ⟨Nat.zero_le _, Nat.zero_le _⟩) hU (fun r25 g25 H locs hp hU => ?_)
      exact m_iret hx hb hr hlocks hsz hU ⟨fun q => absurd h9 q, fun _ _ => hp, fun _ q => absurd q h20⟩ d_M_residue_28
  · have h9 : ¬ (0 ≤ i.toInt ∧ i.toInt ≤ 7) := fun q => by rw [ex6, if_pos q] at c9; exact absurd c9 (by decide)
    refine lv_aload_n hx hb d_M_residue_12 rfl (lv_at hl 0 rfl) ?_
    refine lv_iconst (v := 1) hx hb d_M_residue_13 (by decide) ?_
    refine m_calli (m_run (As := [.int 1]) (rest := []) hx hb hml hown hts hU (cm_raise l z _ g 1) (w_M_raise_cw hts k_M_138 rfl rfl ⟨Nat.le_of_ble_eq_true rfl, Nat.le_of_ble_eq_true rfl⟩) (m_recv hU) rfl hl.1 rfl (lv_room (Nat.le_of_ble_eq_true rfl)) d_M_residue_14 ⟨Nat.zero_le _, Nat.zero_le _⟩) hU (fun r14 g14 H locs hp hU => ?_)
    exact m_iret hx hb hr hlocks hsz hU ⟨fun _ => hp, fun q _ => absurd q h9, fun q _ => absurd q h9⟩ d_M_residue_17
end
section
/-! word -/
theorem nI_mul (a b : Nat) : nI a * nI b = nI (a * b) := (Int32.ofNat_mul a b).symm
theorem wn_dlo {a b : Int32} (ha : wn a < 65536) (hb : wn b < 65536) : wn (a ||| b <<< ((16 : Int32) &&& 31)) = wn a + wn b * 65536 := by
  have h2 : (b <<< ((16 : Int32) &&& 31)).toBitVec.toNat = wn b * 2 ^ 16 % 2 ^ 32 := pk_shl b _ 16 (by decide)
  show (a.toBitVec ||| (b <<< ((16 : Int32) &&& 31)).toBitVec).toNat = _
  rw [BitVec.toNat_or, h2, Nat.or_comm]
  have h3 : wn b * 2 ^ 16 % 2 ^ 32 = 2 ^ 16 * wn b := by omega
  rw [h3, show a.toBitVec.toNat = wn a from rfl, ← Nat.two_pow_add_eq_or_of_lt (i := 16) (by omega) (wn b)]
  omega
theorem two_dg {V k a b : Nat} (h1 : V / 65536 ^ (2 * k) % 65536 = a) (h2 : V / 65536 ^ (2 * k + 1) % 65536 = b) : V / 4294967296 ^ k % 4294967296 = a + b * 65536 := by
  have e : (4294967296 : Nat) ^ k = 65536 ^ (2 * k) := by rw [Nat.pow_mul]
  rw [e]
  rw [Nat.pow_succ, ← Nat.div_div_eq_div_mul] at h2
  generalize V / 65536 ^ (2 * k) = X at h1 h2
  omega
theorem rv_dg {f : Nat → Int32} {i k : Nat} (hi : i < 11) (h : dgOk f) (hk : k < 1100) : rv f i / 65536 ^ k % 65536 = wn (f (1100 * i + k)) := dv_word hi h k 1100 hk (Nat.le_refl _)
set_option maxHeartbeats 4000000 in
set_option maxRecDepth 100000 in
theorem cm_word (l : Launch) (z : YM) (sz : Nat) (g : SM) (i k9 : Int32) (hok : dgOk g.2.2.2.2.2) : Met l y_M_word (zw y_M_word b_M_word 4 (some .int)) { frames := 3, cells := 0, slots := 0, locals := 76 } (va_Pc [.ref (oM z), .int i, .int k9] (mI z g sz)) (va_Qi (fun r g2 => (((0 ≤ i.toInt ∧ i.toInt ≤ 7) ∧ (0 ≤ k9.toInt ∧ k9.toInt ≤ 511)) → (∃ f, g2 = mF (mC g 0) f ∧ dgOk f ∧ rsm g.2.2.2.2.2 f 10) ∧ wn r = (sv g.2.2.2.2.2 i.toInt.toNat).natAbs / 4294967296 ^ k9.toInt.toNat % 4294967296) ∧ (¬ ((0 ≤ i.toInt ∧ i.toInt ≤ 7) ∧ (0 ≤ k9.toInt ∧ k9.toInt ≤ 511)) → g2 = mC g 1)) (mO z sz) (yA z sz)) 0 0 (yA z sz) := by
  refine m_ofW (by decide) (Nat.le_of_ble_eq_true rfl) (fun p e s m below meth c hx hb hr hml hown hts hlocks hname hsz ls hU hl => ?_)
  have hl : lv_has ls 4 [(0, .ref (oM z)), (1, .int i), (2, .int k9)] := hl
  refine lv_aload_n hx hb d_M_word_0 rfl (lv_at hl 0 rfl) ?_
  refine lv_iload_n hx hb d_M_word_1 rfl (lv_at hl 1 rfl) ?_
  refine lv_i2l hx hb d_M_word_2 rfl ?_
  refine lv_topl (fun x2 ex2 => ?_)
  refine lv_lconst (v := 0) hx hb d_M_word_3 (by decide) ?_
  refine lv_ldc2 (v := 7) hx hb hown (hts _ k_M_134) d_M_word_4 ?_
  have t2 : x2.toInt = i.toInt := by rw [ex2]; exact Jvm.Kit.i64_of_i32 i
  refine pr_call (As := [.long x2, .long 0, .long 7]) (rest := [.ref (oM z)]) hx hb hml hown hts (cm_in l x2 0 7) (w_M_in_cw hts k_M_88 rfl rfl ⟨Nat.le_of_ble_eq_true rfl, Nat.le_of_ble_eq_true rfl⟩) rfl hl.1 rfl (lv_room (Nat.le_of_ble_eq_true rfl)) d_M_word_7 ⟨Nat.zero_le _, Nat.zero_le _⟩ ?_
  refine lv_topi (fun x7 ex7 => ?_)
  rw [t2, show (0 : Int64).toInt = 0 from rfl, show (7 : Int64).toInt = 7 from rfl] at ex7
  refine lv_if_eq (tgt := 29) hx hb d_M_word_10 (by decide) (fun c10 => ?_) (fun c10 => ?_)
  · have h10 : ¬ (0 ≤ i.toInt ∧ i.toInt ≤ 7) := fun q => by rw [ex7, if_pos q] at c10; exact absurd c10 (by decide)
    refine lv_iconst (v := 1) hx hb d_M_word_29 (by decide) ?_
    refine mp_C hx hb hts hown hU (hts _ k_M_23) d_M_word_30 (fun H locs hU => ?_)
    generalize eg30 : mC g 1 = g30 at hU
    refine lv_aload_n hx hb d_M_word_33 rfl (lv_at hl 0 rfl) ?_
    refine va_get (D := z.1) (ci := 3) (v := .int g30.1) (C := R_M) (T := F_M) (N := 9) hx hb hts in_M hown hU.2.1 hU.1 0 rfl rfl 0 (by decide) (hts _ k_M_23) (fun _ h9 => h9) rfl d_M_word_34 ?_
    refine lv_topi (fun x34 ex34 => ?_)
    have e34 : x34 = 1 := by rw [ex34, ← eg30]; rfl
    refine lv_if_le (tgt := 42) hx hb d_M_word_37 (by decide) (fun c37 => ?_) (fun c37 => ?_)
    · exact absurd c37 (by rw [e34]; decide)
    · refine lv_iconst (v := 0) hx hb d_M_word_40 (by decide) ?_
      exact m_iret hx hb hr hlocks hsz hU ⟨fun q => absurd q.1 h10, fun _ => by first | exact eg30.symm | rfl⟩ d_M_word_41
  · have h10 : 0 ≤ i.toInt ∧ i.toInt ≤ 7 := Classical.byContradiction fun q => c10 (by rw [ex7, if_neg q])
    refine lv_iload_n hx hb d_M_word_13 rfl (lv_at hl 2 rfl) ?_
    refine lv_i2l hx hb d_M_word_14 rfl ?_
    refine lv_topl (fun x14 ex14 => ?_)
    refine lv_lconst (v := 0) hx hb d_M_word_15 (by decide) ?_
    refine lv_ldc2 (v := 511) hx hb hown (hts _ k_M_136) d_M_word_16 ?_
    have t14 : x14.toInt = k9.toInt := by rw [ex14]; exact Jvm.Kit.i64_of_i32 k9
    refine pr_call (As := [.long x14, .long 0, .long 511]) (rest := [.ref (oM z)]) hx hb hml hown hts (cm_in l x14 0 511) (w_M_in_cw hts k_M_88 rfl rfl ⟨Nat.le_of_ble_eq_true rfl, Nat.le_of_ble_eq_true rfl⟩) rfl hl.1 rfl (lv_room (Nat.le_of_ble_eq_true rfl)) d_M_word_19 ⟨Nat.zero_le _, Nat.zero_le _⟩ ?_
    refine lv_topi (fun x19 ex19 => ?_)
    rw [t14, show (0 : Int64).toInt = 0 from rfl, show (511 : Int64).toInt = 511 from rfl] at ex19
    refine lv_if_eq (tgt := 29) hx hb d_M_word_22 (by decide) (fun c22 => ?_) (fun c22 => ?_)
    · have h22 : ¬ (0 ≤ k9.toInt ∧ k9.toInt ≤ 511) := fun q => by rw [ex19, if_pos q] at c22; exact absurd c22 (by decide)
      refine lv_iconst (v := 1) hx hb d_M_word_29 (by decide) ?_
      refine mp_C hx hb hts hown hU (hts _ k_M_23) d_M_word_30 (fun H locs hU => ?_)
      generalize eg30 : mC g 1 = g30 at hU
      refine lv_aload_n hx hb d_M_word_33 rfl (lv_at hl 0 rfl) ?_
      refine va_get (D := z.1) (ci := 3) (v := .int g30.1) (C := R_M) (T := F_M) (N := 9) hx hb hts in_M hown hU.2.1 hU.1 0 rfl rfl 0 (by decide) (hts _ k_M_23) (fun _ h9 => h9) rfl d_M_word_34 ?_
      refine lv_topi (fun x34 ex34 => ?_)
      have e34 : x34 = 1 := by rw [ex34, ← eg30]; rfl
      refine lv_if_le (tgt := 42) hx hb d_M_word_37 (by decide) (fun c37 => ?_) (fun c37 => ?_)
      · exact absurd c37 (by rw [e34]; decide)
      · refine lv_iconst (v := 0) hx hb d_M_word_40 (by decide) ?_
        exact m_iret hx hb hr hlocks hsz hU ⟨fun q => absurd q.2 h22, fun _ => by first | exact eg30.symm | rfl⟩ d_M_word_41
    · have h22 : 0 ≤ k9.toInt ∧ k9.toInt ≤ 511 := Classical.byContradiction fun q => c22 (by rw [ex19, if_neg q])
      refine lv_iconst (v := 0) hx hb d_M_word_25 (by decide) ?_
      refine lv_goto (tgt := 30) hx hb d_M_word_26 (by decide) ?_
      refine mp_C hx hb hts hown hU (hts _ k_M_23) d_M_word_30 (fun H locs hU => ?_)
      generalize eg30 : mC g 0 = g30 at hU
      refine lv_aload_n hx hb d_M_word_33 rfl (lv_at hl 0 rfl) ?_
      refine va_get (D := z.1) (ci := 3) (v := .int g30.1) (C := R_M) (T := F_M) (N := 9) hx hb hts in_M hown hU.2.1 hU.1 0 rfl rfl 0 (by decide) (hts _ k_M_23) (fun _ h9 => h9) rfl d_M_word_34 ?_
      refine lv_topi (fun x34 ex34 => ?_)
      have e34 : x34 = 0 := by rw [ex34, ← eg30]; rfl
      obtain ⟨j, ej⟩ : ∃ j, j = i.toInt.toNat := ⟨_, rfl⟩
      have hij : i = nI j := by apply Int32.toInt_inj.mp; rw [nI_toInt (by omega)]; omega
      obtain ⟨k, ek⟩ : ∃ k, k = k9.toInt.toNat := ⟨_, rfl⟩
      have hk : k9 = nI k := by apply Int32.toInt_inj.mp; rw [nI_toInt (by omega)]; omega
      have hj7 : j ≤ 7 := by omega
      have hk5 : k ≤ 511 := by omega
      have hokc : dgOk g30.2.2.2.2.2 := by rw [← eg30]; exact hok
      refine lv_if_le (tgt := 42) hx hb d_M_word_37 (by decide) (fun c37 => ?_) (fun c37 => ?_)
      · refine lv_aload_n hx hb d_M_word_42 rfl (lv_at hl 0 rfl) ?_
        refine lv_iload_n hx hb d_M_word_43 rfl (lv_at hl 1 rfl) ?_
        refine m_calli (m_run (As := [.int i]) (rest := []) hx hb hml hown hts hU (cm_sized2 l z _ g30 (i := j) hij (by omega) hokc) (w_M_sized_cw hts k_M_129 rfl rfl ⟨Nat.le_of_ble_eq_true rfl, Nat.le_of_ble_eq_true rfl⟩) (m_recv hU) rfl hl.1 rfl (lv_room (Nat.le_of_ble_eq_true rfl)) d_M_word_44 ⟨Nat.zero_le _, Nat.zero_le _⟩) hU (fun r44 g44 H locs hp hU => ?_)
        obtain ⟨f, n, k1, k2, k3, k4, -⟩ := hp
        rw [k1] at hU
        have hU : Ms z (mF g30 f) s.heap H locs s := hU
        refine lv_istore_n (lv' := [(3, .int r44), (0, .ref (oM z)), (1, .int i), (2, .int k9)]) hx hb d_M_word_47 rfl hl (by decide) rfl (fun ls hl => ?_)
        refine lv_aload_n hx hb d_M_word_48 rfl (lv_at hl 1 rfl) ?_
        refine lv_bipush (v := 10) hx hb d_M_word_49 (by decide) ?_
        refine lv_iconst (v := 2) hx hb d_M_word_51 (by decide) ?_
        refine lv_iload_n hx hb d_M_word_52 rfl (lv_at hl 3 rfl) ?_
        refine lv_imul hx hb d_M_word_53 ?_
        refine lv_topi (fun x53 ex53 => ?_)
        have e53 : x53 = nI (2 * k) := by rw [ex53, hk]; exact nI_mul 2 k
        refine m_calli (m_run (As := [.int 10, .int x53]) (rest := []) hx hb hml hown hts hU (cm_get2 l z _ (mF g30 f) (i := 10) (by decide) e53 (by omega)) (w_M_get_cw hts k_M_33 rfl rfl ⟨Nat.le_of_ble_eq_true rfl, Nat.le_of_ble_eq_true rfl⟩) (m_recv hU) rfl hl.1 rfl (lv_room (Nat.le_of_ble_eq_true rfl)) d_M_word_54 ⟨Nat.zero_le _, Nat.zero_le _⟩) hU (fun r54 g54 H locs hp hU => ?_)
        obtain ⟨p1, p2⟩ := hp
        rw [p1] at hU
        have hU : Ms z (mF g30 f) s.heap H locs s := hU
        refine lv_aload_n hx hb d_M_word_57 rfl (lv_at hl 1 rfl) ?_
        refine lv_bipush (v := 10) hx hb d_M_word_58 (by decide) ?_
        refine lv_iconst (v := 2) hx hb d_M_word_60 (by decide) ?_
        refine lv_iload_n hx hb d_M_word_61 rfl (lv_at hl 3 rfl) ?_
        refine lv_imul hx hb d_M_word_62 ?_
        refine lv_topi (fun x62 ex62 => ?_)
        refine lv_iconst (v := 1) hx hb d_M_word_63 (by decide) ?_
        refine lv_iadd hx hb d_M_word_64 ?_
        refine lv_topi (fun x64 ex64 => ?_)
        have e64 : x64 = nI (2 * k + 1) := by rw [ex64, ex62, hk, show (2 : Int32) = nI 2 from rfl, show (1 : Int32) = nI 1 from rfl, nI_mul, nI_add]
        refine m_calli (m_run (As := [.int 10, .int x64]) (rest := [.int r54]) hx hb hml hown hts hU (cm_get2 l z _ (mF g30 f) (i := 10) (by decide) e64 (by omega)) (w_M_get_cw hts k_M_33 rfl rfl ⟨Nat.le_of_ble_eq_true rfl, Nat.le_of_ble_eq_true rfl⟩) (m_recv hU) rfl hl.1 rfl (lv_room (Nat.le_of_ble_eq_true rfl)) d_M_word_65 ⟨Nat.zero_le _, Nat.zero_le _⟩) hU (fun r65 g65 H locs hp hU => ?_)
        obtain ⟨p3, p4⟩ := hp
        rw [p3] at hU
        have hU : Ms z (mF g30 f) s.heap H locs s := hU
        refine lv_bipush (v := 16) hx hb d_M_word_68 (by decide) ?_
        refine lv_ishl hx hb d_M_word_70 ?_
        refine lv_topi (fun x70 ex70 => ?_)
        refine lv_ior hx hb d_M_word_71 ?_
        refine lv_topi (fun x71 ex71 => ?_)
        have w1 := k2 (1100 * 10 + 2 * k) (by omega)
        have w2 := k2 (1100 * 10 + (2 * k + 1)) (by omega)
        have w3 : wn x71 = wn (f (1100 * 10 + 2 * k)) + wn (f (1100 * 10 + (2 * k + 1))) * 65536 := by
          rw [ex71, ex70, p2, p4]
          exact wn_dlo w1 w2
        have w4 := two_dg (rv_dg (i := 10) (by decide) k2 (show 2 * k < 1100 by omega)) (rv_dg (i := 10) (by decide) k2 (show 2 * k + 1 < 1100 by omega))
        rw [k4] at w4
        exact m_iret hx hb hr hlocks hsz hU ⟨fun _ => ⟨⟨f, by try rw [← eg30], k2, by rw [← eg30] at k3; exact k3⟩, by rw [w3, ← w4, ← ej, ← ek, ← eg30]; rfl⟩, fun q => absurd ⟨h10, h22⟩ q⟩ d_M_word_72
      · exact absurd (by rw [e34]; decide) c37
end
section
/-! count -/
theorem sw_3 (x : Int32) : x = 0 ∨ x = 1 ∨ x = 2 ∨ x = 3 ∨ (x.toInt < 0 ∨ 3 < x.toInt) := by
  have h : ∀ n : Nat, n < 8 → x.toInt = (n : Int) → x = nI n := fun n hn h => by apply Int32.toInt_inj.mp; rw [nI_toInt (by omega)]; exact h
  rcases Int.lt_or_le x.toInt 0 with q | q
  · exact Or.inr (Or.inr (Or.inr (Or.inr (Or.inl q))))
  rcases Int.lt_or_le 3 x.toInt with w | w
  · exact Or.inr (Or.inr (Or.inr (Or.inr (Or.inr w))))
  rcases (show x.toInt = (0 : Nat) ∨ x.toInt = (1 : Nat) ∨ x.toInt = (2 : Nat) ∨ x.toInt = (3 : Nat) by omega) with a | a | a | a
  · exact Or.inl (h 0 (by decide) a)
  · exact Or.inr (Or.inl (h 1 (by decide) a))
  · exact Or.inr (Or.inr (Or.inl (h 2 (by decide) a)))
  · exact Or.inr (Or.inr (Or.inr (Or.inl (h 3 (by decide) a))))
/-- how many units -/
def nU (d : Int) : Int32 := if 0 < d then -1 else if d = -3 then 6 else if d = -4 then 4 else 2
/-- what count answers of a state with D, ring, flag -/
def cnt (w : Int32) (d : Int) (r f : Int32) : Int32 := if w = 0 then Int32.ofInt d else if w = 1 then r else if w = 2 then f else if w = 3 then nU d else -1
theorem l2i_ofInt (x : Int64) : x.toInt32 = Int32.ofInt x.toInt := by rw [Int32.ofInt_int64ToInt]
set_option maxHeartbeats 4000000 in
set_option maxRecDepth 100000 in
theorem cm_count (l : Launch) (z : YM) (sz : Nat) (g : SM) (w9 : Int32) (hN : g.2.2.2.1 = 0 ∨ g.2.2.2.1 = 1) : Met l y_M_count (zw y_M_count b_M_count 2 (some .int)) { frames := 0, cells := 0, slots := 0, locals := 0 } (va_Pc [.ref (oM z), .int w9] (mI z g sz)) (va_Qi (fun r g2 => g2 = mC g 0 ∧ r = cnt w9 g.2.1.toInt g.2.2.1 g.2.2.2.1) (mO z sz) (yA z sz)) 0 0 (yA z sz) := by
  refine m_ofW (by decide) (Nat.le_of_ble_eq_true rfl) (fun p e s m below meth c hx hb hr hml hown hts hlocks hname hsz ls hU hl => ?_)
  have hl : lv_has ls 2 [(0, .ref (oM z)), (1, .int w9)] := hl
  refine lv_aload_n hx hb d_M_count_0 rfl (lv_at hl 0 rfl) ?_
  refine lv_iconst (v := 0) hx hb d_M_count_1 (by decide) ?_
  refine mp_C hx hb hts hown hU (hts _ k_M_23) d_M_count_2 (fun H locs hU => ?_)
  generalize eg2 : mC g 0 = g2 at hU
  refine lv_iload_n hx hb d_M_count_5 rfl (lv_at hl 1 rfl) ?_
  rcases sw_3 w9 with w | w | w | w | w
  · refine lv_tableIn hx hb d_M_count_6 (by rw [w]; decide) (by rw [w]; decide) (off := 30) (by rw [w]; rfl) (tgt := 36) (by decide) ?_
    refine lv_aload_n hx hb d_M_count_36 rfl (lv_at hl 0 rfl) ?_
    refine va_get (D := z.1) (ci := 3) (v := .long g2.2.1) (C := R_M) (T := F_M) (N := 9) hx hb hts in_M hown hU.2.1 hU.1 0 rfl rfl 1 (by decide) (hts _ k_M_9) (fun _ h9 => h9) rfl d_M_count_37 ?_
    refine lv_topl (fun x37 ex37 => ?_)
    refine lv_l2i hx hb d_M_count_40 rfl ?_
    refine lv_topi (fun x40 ex40 => ?_)
    exact m_iret hx hb hr hlocks hsz hU ⟨by first | exact eg2.symm | rfl, by rw [ex40, ex37, ← eg2, w]; exact l2i_ofInt _⟩ d_M_count_41
  · refine lv_tableIn hx hb d_M_count_6 (by rw [w]; decide) (by rw [w]; decide) (off := 36) (by rw [w]; rfl) (tgt := 42) (by decide) ?_
    refine lv_aload_n hx hb d_M_count_42 rfl (lv_at hl 0 rfl) ?_
    refine va_get (D := z.1) (ci := 3) (v := .int g2.2.2.1) (C := R_M) (T := F_M) (N := 9) hx hb hts in_M hown hU.2.1 hU.1 0 rfl rfl 2 (by decide) (hts _ k_M_41) (fun _ h9 => h9) rfl d_M_count_43 ?_
    refine lv_topi (fun x43 ex43 => ?_)
    exact m_iret hx hb hr hlocks hsz hU ⟨by first | exact eg2.symm | rfl, by rw [ex43, ← eg2, w]; rfl⟩ d_M_count_46
  · refine lv_tableIn hx hb d_M_count_6 (by rw [w]; decide) (by rw [w]; decide) (off := 41) (by rw [w]; rfl) (tgt := 47) (by decide) ?_
    refine lv_aload_n hx hb d_M_count_47 rfl (lv_at hl 0 rfl) ?_
    refine va_get (D := z.1) (ci := 3) (v := .int g2.2.2.2.1) (C := R_M) (T := F_M) (N := 9) hx hb hts in_M hown hU.2.1 hU.1 0 rfl rfl 3 (by decide) (hts _ k_M_44) (fun _ h9 => h9) rfl d_M_count_48 ?_
    refine lv_topi (fun x48 ex48 => ?_)
    have e48 : x48 = g.2.2.2.1 := by rw [ex48, ← eg2]; rfl
    refine lv_if_eq (tgt := 58) hx hb d_M_count_51 (by decide) (fun c51 => ?_) (fun c51 => ?_)
    · refine lv_iconst (v := 0) hx hb d_M_count_58 (by decide) ?_
      have q : g.2.2.2.1 = 0 := e48.symm.trans c51
      exact m_iret hx hb hr hlocks hsz hU ⟨by first | exact eg2.symm | rfl, by rw [w, q]; rfl⟩ d_M_count_59
    · refine lv_iconst (v := 1) hx hb d_M_count_54 (by decide) ?_
      refine lv_goto (tgt := 59) hx hb d_M_count_55 (by decide) ?_
      have q : g.2.2.2.1 = 1 := hN.resolve_left fun q => c51 (e48.trans q)
      exact m_iret hx hb hr hlocks hsz hU ⟨by first | exact eg2.symm | rfl, by rw [w, q]; rfl⟩ d_M_count_59
  · refine lv_tableIn hx hb d_M_count_6 (by rw [w]; decide) (by rw [w]; decide) (off := 54) (by rw [w]; rfl) (tgt := 60) (by decide) ?_
    have hd2 : ∀ x : Int64, x = g2.2.1 → x.toInt = g.2.1.toInt := fun x hx => by rw [hx, ← eg2]; rfl
    obtain ⟨dd, edd⟩ : ∃ dd, dd = g.2.1.toInt := ⟨_, rfl⟩
    have hfin : ∀ r : Int32, r = nU dd → r = cnt w9 g.2.1.toInt g.2.2.1 g.2.2.2.1 := fun r hr => by rw [hr, w, edd]; rfl
    refine lv_aload_n hx hb d_M_count_60 rfl (lv_at hl 0 rfl) ?_
    refine va_get (D := z.1) (ci := 3) (v := .long g2.2.1) (C := R_M) (T := F_M) (N := 9) hx hb hts in_M hown hU.2.1 hU.1 0 rfl rfl 1 (by decide) (hts _ k_M_9) (fun _ h9 => h9) rfl d_M_count_61 ?_
    refine lv_topl (fun x61 ex61 => ?_)
    refine lv_lconst (v := 0) hx hb d_M_count_64 (by decide) ?_
    refine W.lcmp hx hb d_M_count_65 ?_
    have u61 := hd2 x61 ex61
    rw [← edd] at u61
    refine lv_if_le (tgt := 73) hx hb d_M_count_66 (by decide) (fun c66 => ?_) (fun c66 => ?_)
    · have h66 : ¬ 0 < dd := by
        have q := (lg_cmp_le _ _).mp c66
        rw [Int64.le_iff_toInt_le, Int64.toInt_zero, u61] at q
        omega
      refine lv_aload_n hx hb d_M_count_73 rfl (lv_at hl 0 rfl) ?_
      refine va_get (D := z.1) (ci := 3) (v := .long g2.2.1) (C := R_M) (T := F_M) (N := 9) hx hb hts in_M hown hU.2.1 hU.1 0 rfl rfl 1 (by decide) (hts _ k_M_9) (fun _ h9 => h9) rfl d_M_count_74 ?_
      refine lv_topl (fun x74 ex74 => ?_)
      refine lv_ldc2 (v := (-3)) hx hb hown (hts _ k_M_52) d_M_count_77 ?_
      refine W.lcmp hx hb d_M_count_80 ?_
      have u74 := hd2 x74 ex74
      rw [← edd] at u74
      refine lv_if_ne (tgt := 89) hx hb d_M_count_81 (by decide) (fun c81 => ?_) (fun c81 => ?_)
      · have h81 : ¬ dd = -3 := fun q => c81 ((lg_cmp_eq _ _).mpr (Int64.toInt_inj.mp (by rw [u74, q]; rfl)))
        refine lv_aload_n hx hb d_M_count_89 rfl (lv_at hl 0 rfl) ?_
        refine va_get (D := z.1) (ci := 3) (v := .long g2.2.1) (C := R_M) (T := F_M) (N := 9) hx hb hts in_M hown hU.2.1 hU.1 0 rfl rfl 1 (by decide) (hts _ k_M_9) (fun _ h9 => h9) rfl d_M_count_90 ?_
        refine lv_topl (fun x90 ex90 => ?_)
        refine lv_ldc2 (v := (-4)) hx hb hown (hts _ k_M_7) d_M_count_93 ?_
        refine W.lcmp hx hb d_M_count_96 ?_
        have u90 := hd2 x90 ex90
        rw [← edd] at u90
        refine lv_if_ne (tgt := 104) hx hb d_M_count_97 (by decide) (fun c97 => ?_) (fun c97 => ?_)
        · have h97 : ¬ dd = -4 := fun q => c97 ((lg_cmp_eq _ _).mpr (Int64.toInt_inj.mp (by rw [u90, q]; rfl)))
          refine lv_iconst (v := 2) hx hb d_M_count_104 (by decide) ?_
          exact m_iret hx hb hr hlocks hsz hU ⟨by first | exact eg2.symm | rfl, hfin _ (by rw [nU, if_neg h66, if_neg h81, if_neg h97])⟩ d_M_count_105
        · have h97 : dd = -4 := by
            have q := (lg_cmp_eq _ _).mp c97
            rw [← u90, q]; rfl
          refine lv_iconst (v := 4) hx hb d_M_count_100 (by decide) ?_
          refine lv_goto (tgt := 105) hx hb d_M_count_101 (by decide) ?_
          exact m_iret hx hb hr hlocks hsz hU ⟨by first | exact eg2.symm | rfl, hfin _ (by rw [nU, if_neg h66, if_neg h81, if_pos h97])⟩ d_M_count_105
      · have h81 : dd = -3 := by
          have q := (lg_cmp_eq _ _).mp c81
          rw [← u74, q]; rfl
        refine lv_bipush (v := 6) hx hb d_M_count_84 (by decide) ?_
        refine lv_goto (tgt := 105) hx hb d_M_count_86 (by decide) ?_
        exact m_iret hx hb hr hlocks hsz hU ⟨by first | exact eg2.symm | rfl, hfin _ (by rw [nU, if_neg h66, if_pos h81])⟩ d_M_count_105
    · have h66 : 0 < dd := by
        have q : ¬ x61 ≤ (0 : Int64) := fun q => c66 ((lg_cmp_le _ _).mpr q)
        rw [Int64.le_iff_toInt_le, Int64.toInt_zero, u61] at q
        omega
      refine lv_iconst (v := (-1)) hx hb d_M_count_69 (by decide) ?_
      refine lv_goto (tgt := 105) hx hb d_M_count_70 (by decide) ?_
      exact m_iret hx hb hr hlocks hsz hU ⟨by first | exact eg2.symm | rfl, hfin _ (by rw [nU, if_pos h66])⟩ d_M_count_105
  · refine lv_tableOut hx hb d_M_count_6 (tgt := 106) w (by decide) ?_
    refine lv_iconst (v := (-1)) hx hb d_M_count_106 (by decide) ?_
    have n0 : ¬ w9 = 0 := fun q => by rw [q] at w; exact absurd w (by decide)
    have n1 : ¬ w9 = 1 := fun q => by rw [q] at w; exact absurd w (by decide)
    have n2 : ¬ w9 = 2 := fun q => by rw [q] at w; exact absurd w (by decide)
    have n3 : ¬ w9 = 3 := fun q => by rw [q] at w; exact absurd w (by decide)
    exact m_iret hx hb hr hlocks hsz hU ⟨by first | exact eg2.symm | rfl, by rw [cnt, if_neg n0, if_neg n1, if_neg n2, if_neg n3]⟩ d_M_count_107
end
section
/-! take -/
theorem like4 (d : Int) : (d.tmod 4 < 0 → d.tmod 4 + 4 = d % 4) ∧ (¬ d.tmod 4 < 0 → d.tmod 4 = d % 4) ∧ (0 ≤ d → 0 ≤ d.tmod 4) ∧ (d < 0 → d.tmod 4 ≤ 0) := by
  rcases Int.lt_or_le d 0 with h | h
  · have e : d.tmod 4 = -((-d) % 4) := by
      rw [← Int.tmod_eq_emod_of_nonneg (show 0 ≤ -d by omega), Int.neg_tmod, Int.neg_neg]
    omega
  · have e : d.tmod 4 = d % 4 := Int.tmod_eq_emod_of_nonneg h
    omega
theorem rem4 (v : Int32) : (v - v / 4 * 4).toInt = v.toInt.tmod 4 := by
  have h := i32_rng v
  have e := Int.tmod_add_mul_tdiv v.toInt 4
  obtain ⟨l1, l2, l3, l4⟩ := like4 v.toInt
  have hm := Int.emod_lt_of_pos v.toInt (show (0 : Int) < 4 by decide)
  have hm0 := Int.emod_nonneg v.toInt (show (4 : Int) ≠ 0 by decide)
  have d1 : (v / 4).toInt = v.toInt.tdiv 4 := by
    rw [Jvm.Kit.i32_div (by intro q; exact absurd q.2 (by decide))]
    rfl
  generalize v.toInt.tdiv 4 = q at e d1
  generalize v.toInt.tmod 4 = r at e l1 l2 l3 l4 ⊢
  generalize v.toInt % 4 = r4 at l1 l2 hm hm0
  have hr1 : -4 ≤ r ∧ r ≤ 3 := by
    rcases Int.lt_or_le r 0 with w | w
    · have := l1 w; omega
    · have := l2 (by omega); omega
  have hr2 : (0 ≤ r ∧ 0 ≤ v.toInt) ∨ (r ≤ 0 ∧ v.toInt < 0) := by
    rcases Int.lt_or_le v.toInt 0 with w | w
    · exact Or.inr ⟨l4 w, w⟩
    · exact Or.inl ⟨l3 w, w⟩
  have d2 : (v / 4 * 4).toInt = q * 4 := by rw [Jvm.Kit.i32_mul] <;> rw [d1, show (4 : Int32).toInt = 4 from rfl] <;> omega
  rw [Jvm.Kit.i32_sub] <;> rw [d2] <;> omega
theorem sqr_rt {V : Nat} (h : V ≤ 1048576) : sqr V = rt (V : Int) := by
  obtain ⟨a, b⟩ := sqr_spec (show V < 2147483648 by omega)
  obtain ⟨c, d⟩ := rt_spec (d := (V : Int)) (by omega) (by omega)
  exact sq_uniq a b (Int.ofNat_le.mp c) (Int.ofNat_lt.mp d)
set_option maxHeartbeats 4000000 in
set_option maxRecDepth 100000 in
theorem cm_take (l : Launch) (z : YM) (sz : Nat) (g : SM) (v : Int32) (hnt : ∀ D, dOk D → NTok D) (hok : dgOk g.2.2.2.2.2) : Met l y_M_take (zw y_M_take b_M_take 5 (some .int)) { frames := 5, cells := 0, slots := 0, locals := 131 } (va_Pc [.ref (oM z), .int v] (mI z g sz)) (va_Qi (fun r g2 => (tk v.toInt → g2.1 = 0 ∧ mS g2 v.toInt 1 (v.toInt % 2) ((v.toInt % 2 - v.toInt) / 4) ∧ r = nI (bl (uW v.toInt).1)) ∧ (¬ tk v.toInt → g2 = mC g 1)) (mO z sz) (yA z sz)) 0 0 (yA z sz) := by
  refine m_ofW (by decide) (Nat.le_of_ble_eq_true rfl) (fun p e s m below meth c hx hb hr hml hown hts hlocks hname hsz ls hU hl => ?_)
  have hl : lv_has ls 5 [(0, .ref (oM z)), (1, .int v)] := hl
  have hvr := i32_rng v
  obtain ⟨d, ed⟩ : ∃ d, d = v.toInt := ⟨_, rfl⟩
  rw [← ed] at hvr
  have E72 : ∀ (cd : Int32) (H : Heap) (locs : List Loc) (ls : Array Slot), (cd = 0 ∧ tk d ∨ cd = 1 ∧ ¬ tk d) → Ms z g s.heap H locs s → lv_has ls 5 [(0, .ref (oM z)), (1, .int v)] → W p l e ({ frames := 5, cells := 0, slots := 0, locals := 131 } : Room) s m ([.ref (oM z), .int v] : List Value).toArray below meth c H locs 0 0 (MQ below (va_Qi (fun r g2 => (tk v.toInt → g2.1 = 0 ∧ mS g2 v.toInt 1 (v.toInt % 2) ((v.toInt % 2 - v.toInt) / 4) ∧ r = nI (bl (uW v.toInt).1)) ∧ (¬ tk v.toInt → g2 = mC g 1)) (mO z sz) (yA z sz)) ([.ref (oM z), .int v] : List Value).toArray s 0 0 (yA z sz)) (F0 m 72 ls [.int cd, .ref (oM z)]) := by
    intro cd H locs ls hc hU hl
    refine mp_C hx hb hts hown hU (hts _ k_M_23) d_M_take_72 (fun H locs hU => ?_)
    generalize eg72 : mC g cd = g72 at hU
    refine lv_aload_n hx hb d_M_take_75 rfl (lv_at hl 0 rfl) ?_
    refine va_get (D := z.1) (ci := 3) (v := .int g72.1) (C := R_M) (T := F_M) (N := 9) hx hb hts in_M hown hU.2.1 hU.1 0 rfl rfl 0 (by decide) (hts _ k_M_23) (fun _ h9 => h9) rfl d_M_take_76 ?_
    refine lv_topi (fun x76 ex76 => ?_)
    have e76 : x76 = cd := by rw [ex76, ← eg72]; rfl
    refine lv_if_le (tgt := 84) hx hb d_M_take_79 (by decide) (fun c79 => ?_) (fun c79 => ?_)
    · have hc0 : cd = 0 ∧ tk d := hc.resolve_right fun q => by rw [e76, q.1] at c79; exact absurd c79 (by decide)
      refine lv_aload_n hx hb d_M_take_84 rfl (lv_at hl 0 rfl) ?_
      refine lv_iload_n hx hb d_M_take_85 rfl (lv_at hl 1 rfl) ?_
      refine lv_i2l hx hb d_M_take_86 rfl ?_
      refine lv_topl (fun x86 ex86 => ?_)
      have t86 : x86.toInt = d := by rw [ex86, ed]; exact Jvm.Kit.i64_of_i32 v
      refine m_callv (m_run (As := [.long x86]) (rest := []) hx hb hml hown hts hU (cm_begin l z _ g72 (d := d) (v := x86) t86 hc0.2 hnt (by rw [← eg72]; exact hok)) (w_M_begin_cw hts k_M_19 rfl rfl ⟨Nat.le_of_ble_eq_true rfl, Nat.le_of_ble_eq_true rfl⟩) (m_recv hU) rfl hl.1 rfl (lv_room (Nat.le_of_ble_eq_true rfl)) d_M_take_87 ⟨Nat.zero_le _, Nat.zero_le _⟩) hU (fun g87 H locs hp hU => ?_)
      obtain ⟨p1, p2⟩ := hp
      refine lv_aload_n hx hb d_M_take_90 rfl (lv_at hl 0 rfl) ?_
      refine lv_iconst (v := 0) hx hb d_M_take_91 (by decide) ?_
      refine m_calli (m_run (As := [.int 0]) (rest := []) hx hb hml hown hts hU (cm_bitsOf l z _ g87 (i := 0) (by decide) p2.2.2.2.1) (w_M_bitsOf_cw hts k_M_92 rfl rfl ⟨Nat.le_of_ble_eq_true rfl, Nat.le_of_ble_eq_true rfl⟩) (m_recv hU) rfl hl.1 rfl (lv_room (Nat.le_of_ble_eq_true rfl)) d_M_take_92 ⟨Nat.zero_le _, Nat.zero_le _⟩) hU (fun r92 g92 H locs hp hU => ?_)
      obtain ⟨f, rfl, k2, k3, k4⟩ := hp
      exact m_iret hx hb hr hlocks hsz hU ⟨fun _ => ⟨p1.trans (by rw [← eg72]; exact hc0.1), by rw [← ed]; exact p2.keep k2 k3, by rw [k4, p2.2.2.2.2.1.1, ← ed]; rfl⟩, fun q => absurd (ed ▸ hc0.2) q⟩ d_M_take_95
    · have hc1 : cd = 1 ∧ ¬ tk d := hc.resolve_left fun q => c79 (by rw [e76, q.1]; decide)
      refine lv_iconst (v := 0) hx hb d_M_take_82 (by decide) ?_
      exact m_iret hx hb hr hlocks hsz hU ⟨fun q => absurd (ed ▸ q) hc1.2, fun _ => by rw [← eg72, hc1.1]⟩ d_M_take_83
  have E31 : ∀ (w : Int64) (lk : Int32) (H : Heap) (locs : List Loc) (ls : Array Slot), (0 ≤ d → w = lN (sqr d.toNat)) → lk.toInt = d % 4 → Ms z g s.heap H locs s → lv_has ls 5 [(0, .ref (oM z)), (1, .int v), (2, .long w)] → W p l e ({ frames := 5, cells := 0, slots := 0, locals := 131 } : Room) s m ([.ref (oM z), .int v] : List Value).toArray below meth c H locs 0 0 (MQ below (va_Qi (fun r g2 => (tk v.toInt → g2.1 = 0 ∧ mS g2 v.toInt 1 (v.toInt % 2) ((v.toInt % 2 - v.toInt) / 4) ∧ r = nI (bl (uW v.toInt).1)) ∧ (¬ tk v.toInt → g2 = mC g 1)) (mO z sz) (yA z sz)) ([.ref (oM z), .int v] : List Value).toArray s 0 0 (yA z sz)) (F0 m 31 ls [.int lk]) := by
    intro w lk H locs ls hw hk hU hl
    refine lv_istore (lv' := [(4, .int lk), (0, .ref (oM z)), (1, .int v), (2, .long w)]) hx hb d_M_take_31 hl (by decide) rfl (fun ls hl => ?_)
    refine lv_aload_n hx hb d_M_take_33 rfl (lv_at hl 1 rfl) ?_
    refine lv_iload_n hx hb d_M_take_34 rfl (lv_at hl 2 rfl) ?_
    refine lv_i2l hx hb d_M_take_35 rfl ?_
    refine lv_topl (fun x35 ex35 => ?_)
    refine lv_ldc2 (v := (-1048576)) hx hb hown (hts _ k_M_84) d_M_take_36 ?_
    refine lv_ldc2 (v := 1048576) hx hb hown (hts _ k_M_86) d_M_take_39 ?_
    have t35 : x35.toInt = d := by rw [ex35, ed]; exact Jvm.Kit.i64_of_i32 v
    refine pr_call (As := [.long x35, .long (-1048576), .long 1048576]) (rest := [.ref (oM z)]) hx hb hml hown hts (cm_in l x35 (-1048576) 1048576) (w_M_in_cw hts k_M_88 rfl rfl ⟨Nat.le_of_ble_eq_true rfl, Nat.le_of_ble_eq_true rfl⟩) rfl hl.1 rfl (lv_room (Nat.le_of_ble_eq_true rfl)) d_M_take_42 ⟨Nat.zero_le _, Nat.zero_le _⟩ ?_
    refine lv_topi (fun x42 ex42 => ?_)
    rw [t35, show (-1048576 : Int64).toInt = -1048576 from rfl, show (1048576 : Int64).toInt = 1048576 from rfl] at ex42
    refine lv_if_eq (tgt := 71) hx hb d_M_take_45 (by decide) (fun c45 => ?_) (fun c45 => ?_)
    · have h45 : ¬ tk d := fun q => by rw [ex42, if_pos ⟨q.1, q.2.1⟩] at c45; exact absurd c45 (by decide)
      refine lv_iconst (v := 1) hx hb d_M_take_71 (by decide) ?_
      exact E72 1 _ _ ls (Or.inr ⟨rfl, h45⟩) hU (lv_sub hl [1, 2] rfl)
    · have h45 : -1048576 ≤ d ∧ d ≤ 1048576 := Classical.byContradiction fun q => c45 (by rw [ex42, if_neg q])
      refine lv_iload hx hb d_M_take_48 (lv_at hl 0 rfl) ?_
      refine lv_iconst (v := 2) hx hb d_M_take_50 (by decide) ?_
      refine lv_icmp_ge (tgt := 71) hx hb d_M_take_51 (by decide) (fun c51 => ?_) (fun c51 => ?_)
      · have h51 : ¬ tk d := fun q => by
          have w := Int32.le_iff_toInt_le.mp c51
          rw [hk, show (2 : Int32).toInt = 2 from rfl] at w
          have := q.2.2.1
          omega
        refine lv_iconst (v := 1) hx hb d_M_take_71 (by decide) ?_
        exact E72 1 _ _ ls (Or.inr ⟨rfl, h51⟩) hU (lv_sub hl [1, 2] rfl)
      · have h51 : d % 4 ≤ 1 := by
          have w : ¬ (2 : Int32).toInt ≤ lk.toInt := fun q => c51 (Int32.le_iff_toInt_le.mpr q)
          rw [hk, show (2 : Int32).toInt = 2 from rfl] at w
          omega
        refine lv_iload_n hx hb d_M_take_54 rfl (lv_at hl 2 rfl) ?_
        refine lv_if_lt (tgt := 67) hx hb d_M_take_55 (by decide) (fun c55 => ?_) (fun c55 => ?_)
        · have h55 : d < 0 := by rw [ed]; exact Int32.lt_iff_toInt_lt.mp c55
          refine lv_iconst (v := 0) hx hb d_M_take_67 (by decide) ?_
          refine lv_goto (tgt := 72) hx hb d_M_take_68 (by decide) ?_
          exact E72 0 _ _ ls (Or.inl ⟨rfl, h45.1, h45.2, h51, by omega⟩) hU (lv_sub hl [1, 2] rfl)
        · have h55 : 0 ≤ d := by
            rcases Int.lt_or_le d 0 with q | q
            · exact absurd (Int32.lt_iff_toInt_lt.mpr (by rw [← ed]; exact q)) c55
            · exact q
          have hV : d.toNat ≤ 1048576 := by omega
          have hq := sqr_rt hV
          have hdd : ((d.toNat : Nat) : Int) = d := by omega
          rw [hdd] at hq
          have hqs := (sqr_spec (show d.toNat < 2147483648 by omega)).1
          refine lv_lload_n hx hb d_M_take_58 rfl (lv_at hl 3 rfl) ?_
          refine lv_lload_n hx hb d_M_take_59 rfl (lv_at hl 3 rfl) ?_
          refine lv_lmul hx hb d_M_take_60 ?_
          refine lv_topl (fun x60 ex60 => ?_)
          refine lv_iload_n hx hb d_M_take_61 rfl (lv_at hl 2 rfl) ?_
          refine lv_i2l hx hb d_M_take_62 rfl ?_
          refine lv_topl (fun x62 ex62 => ?_)
          refine W.lcmp hx hb d_M_take_63 ?_
          have e60 : x60 = lN (sqr d.toNat * sqr d.toNat) := by rw [ex60, hw h55, lN_mul]
          have e62 : x62 = lN d.toNat := by
            apply Int64.toInt_inj.mp
            rw [pk_lT (by omega), ex62, Jvm.Kit.i64_of_i32, ← ed]
            omega
          refine lv_if_eq (tgt := 71) hx hb d_M_take_64 (by decide) (fun c64 => ?_) (fun c64 => ?_)
          · have h64 : ¬ tk d := fun q => by
              have w := (lg_cmp_eq _ _).mp c64
              rw [e60, e62, pk_lEQ (by omega) (by omega)] at w
              rw [hq] at w
              exact q.2.2.2 (by rw [w]; exact hdd)
            refine lv_iconst (v := 1) hx hb d_M_take_71 (by decide) ?_
            exact E72 1 _ _ ls (Or.inr ⟨rfl, h64⟩) hU (lv_sub hl [1, 2] rfl)
          · have h64 : tk d := ⟨h45.1, h45.2, h51, fun q => c64 ((lg_cmp_eq _ _).mpr (by
              rw [e60, e62, pk_lEQ (by omega) (by omega), hq]
              exact Int.ofNat_inj.mp (q.trans hdd.symm)))⟩
            refine lv_iconst (v := 0) hx hb d_M_take_67 (by decide) ?_
            refine lv_goto (tgt := 72) hx hb d_M_take_68 (by decide) ?_
            exact E72 0 _ _ ls (Or.inl ⟨rfl, h64⟩) hU (lv_sub hl [1, 2] rfl)
  have E13 : ∀ (w : Int64) (H : Heap) (locs : List Loc) (ls : Array Slot), (0 ≤ d → w = lN (sqr d.toNat)) → Ms z g s.heap H locs s → lv_has ls 5 [(0, .ref (oM z)), (1, .int v)] → W p l e ({ frames := 5, cells := 0, slots := 0, locals := 131 } : Room) s m ([.ref (oM z), .int v] : List Value).toArray below meth c H locs 0 0 (MQ below (va_Qi (fun r g2 => (tk v.toInt → g2.1 = 0 ∧ mS g2 v.toInt 1 (v.toInt % 2) ((v.toInt % 2 - v.toInt) / 4) ∧ r = nI (bl (uW v.toInt).1)) ∧ (¬ tk v.toInt → g2 = mC g 1)) (mO z sz) (yA z sz)) ([.ref (oM z), .int v] : List Value).toArray s 0 0 (yA z sz)) (F0 m 13 ls [.long w]) := by
    intro w H locs ls hw hU hl
    have hne16 : ¬ (4 : Int32) = 0 := by decide
    have hne22 := hne16
    have hne30 := hne16
    have hr4 : ∀ x : Int32, x = v - v / 4 * 4 → x.toInt = d.tmod 4 := fun x hx => by rw [hx, rem4, ed]
    obtain ⟨l1, l2, -⟩ := like4 d
    have hm := Int.emod_lt_of_pos d (show (0 : Int) < 4 by decide)
    have hm0 := Int.emod_nonneg d (show (4 : Int) ≠ 0 by decide)
    refine lv_lstore_n (lv' := [(2, .long w), (0, .ref (oM z)), (1, .int v)]) hx hb d_M_take_13 rfl hl (by decide) rfl (fun ls hl => ?_)
    refine lv_iload_n hx hb d_M_take_14 rfl (lv_at hl 2 rfl) ?_
    refine lv_iconst (v := 4) hx hb d_M_take_15 (by decide) ?_
    refine lv_irem hx hb d_M_take_16 hne16 ?_
    refine lv_topi (fun x16 ex16 => ?_)
    have t16 := hr4 x16 ex16
    refine lv_if_ge (tgt := 28) hx hb d_M_take_17 (by decide) (fun c17 => ?_) (fun c17 => ?_)
    · have h17 : ¬ d.tmod 4 < 0 := fun q => by
        have w := Int32.le_iff_toInt_le.mp c17
        rw [t16, show (0 : Int32).toInt = 0 from rfl] at w
        omega
      refine lv_iload_n hx hb d_M_take_28 rfl (lv_at hl 2 rfl) ?_
      refine lv_iconst (v := 4) hx hb d_M_take_29 (by decide) ?_
      refine lv_irem hx hb d_M_take_30 hne30 ?_
      refine lv_topi (fun x30 ex30 => ?_)
      have t30 := hr4 x30 ex30
      exact E31 w x30 _ _ ls hw (by rw [t30]; exact l2 h17) hU (lv_sub hl [1, 2, 0] rfl)
    · have h17 : d.tmod 4 < 0 := by
        rcases Int.lt_or_le (d.tmod 4) 0 with q | q
        · exact q
        · exact absurd (Int32.le_iff_toInt_le.mpr (by rw [t16]; exact q)) c17
      refine lv_iload_n hx hb d_M_take_20 rfl (lv_at hl 2 rfl) ?_
      refine lv_iconst (v := 4) hx hb d_M_take_21 (by decide) ?_
      refine lv_irem hx hb d_M_take_22 hne22 ?_
      refine lv_topi (fun x22 ex22 => ?_)
      refine lv_iconst (v := 4) hx hb d_M_take_23 (by decide) ?_
      refine lv_iadd hx hb d_M_take_24 ?_
      refine lv_topi (fun x24 ex24 => ?_)
      refine lv_goto (tgt := 31) hx hb d_M_take_25 (by decide) ?_
      have t22 := hr4 x22 ex22
      have t24 : x24.toInt = d.tmod 4 + 4 := by
        have := l1 h17
        rw [ex24, Jvm.Kit.i32_add] <;> rw [t22, show (4 : Int32).toInt = 4 from rfl] <;> omega
      exact E31 w x24 _ _ ls hw (by rw [t24]; exact l1 h17) hU (lv_sub hl [1, 2, 0] rfl)
  refine lv_iload_n hx hb d_M_take_0 rfl (lv_at hl 1 rfl) ?_
  refine lv_if_ge (tgt := 8) hx hb d_M_take_1 (by decide) (fun c1 => ?_) (fun c1 => ?_)
  · have h1 : 0 ≤ d := by rw [ed]; exact Int32.le_iff_toInt_le.mp c1
    refine lv_iload_n hx hb d_M_take_8 rfl (lv_at hl 1 rfl) ?_
    refine lv_i2l hx hb d_M_take_9 rfl ?_
    refine lv_topl (fun x9 ex9 => ?_)
    have e9 : x9 = lN d.toNat := by
      apply Int64.toInt_inj.mp
      rw [pk_lT (by omega), ex9, Jvm.Kit.i64_of_i32, ← ed]
      omega
    refine pr_call (As := [.long x9]) (rest := []) hx hb hml hown hts (by rw [e9]; exact cm_wholeRoot l (V := d.toNat) (by omega)) (w_M_wholeRoot_cw hts k_M_65 rfl rfl ⟨Nat.le_of_ble_eq_true rfl, Nat.le_of_ble_eq_true rfl⟩) rfl hl.1 rfl (lv_room (Nat.le_of_ble_eq_true rfl)) d_M_take_10 ⟨Nat.zero_le _, Nat.zero_le _⟩ ?_
    refine lv_topl (fun x10 ex10 => ?_)
    exact E13 x10 _ _ ls (fun _ => ex10) hU hl
  · have h1 : ¬ 0 ≤ d := fun q => c1 (Int32.le_iff_toInt_le.mpr (by rw [← ed]; exact q))
    refine lv_lconst (v := 0) hx hb d_M_take_4 (by decide) ?_
    refine lv_goto (tgt := 13) hx hb d_M_take_5 (by decide) ?_
    exact E13 0 _ _ ls (fun q => absurd q h1) hU hl
end
section
/-! ask -/
theorem mb30 {x y : Int} (hx : -1073741824 ≤ x ∧ x ≤ 1073741824) (hy : -1073741824 ≤ y ∧ y ≤ 1073741824) : -1152921504606846976 ≤ x * y ∧ x * y ≤ 1152921504606846976 := by
  have h : (x * y).natAbs ≤ 1073741824 * 1073741824 := by rw [Int.natAbs_mul]; exact Nat.mul_le_mul (by omega) (by omega)
  omega
def szOk (a b c : Int) : Prop := (-1073741824 ≤ a ∧ a ≤ 1073741824) ∧ (-1073741824 ≤ b ∧ b ≤ 1073741824) ∧ (-1073741824 ≤ c ∧ c ≤ 1073741824)
def akOk (d a b c : Int) : Prop := szOk a b c ∧ b * b - 4 * a * c = d ∧ Nat.gcd (Nat.gcd a.natAbs b.natAbs) c.natAbs = 1
theorem gcd_le' {a b : Nat} {M : Nat} (ha : a ≤ M) (hb : b ≤ M) : Nat.gcd a b ≤ M := by
  rcases Nat.eq_zero_or_pos a with h | h
  · rw [h, Nat.gcd_zero_left]; exact hb
  · exact Nat.le_trans (Nat.gcd_le_left b h) ha
set_option maxHeartbeats 4000000 in
set_option maxRecDepth 100000 in
theorem cm_ask (l : Launch) (z : YM) (sz : Nat) (g : SM) (a b c9 : Int32) {d a0 b0 c0 : Int} (hd : tk d) (hnt : ∀ D, dOk D → NTok D) (hS : mS g d a0 b0 c0) : Met l y_M_ask (zw y_M_ask b_M_ask 5 none) { frames := 3, cells := 0, slots := 0, locals := 81 } (va_Pc [.ref (oM z), .int a, .int b, .int c9] (mI z g sz)) (va_Qv (fun g2 => (akOk d a.toInt b.toInt c9.toInt → g2.1 = 0 ∧ mS g2 d a.toInt b.toInt c9.toInt) ∧ (¬ akOk d a.toInt b.toInt c9.toInt → g2 = mC g 1)) (mO z sz) (yA z sz)) 0 0 (yA z sz) := by
  refine m_ofW (by decide) (Nat.le_of_ble_eq_true rfl) (fun p e s m below meth c hx hb hr hml hown hts hlocks hname hsz ls hU hl => ?_)
  have hl : lv_has ls 5 [(0, .ref (oM z)), (1, .int a), (2, .int b), (3, .int c9)] := hl
  have hub := uW_bd hd hnt
  obtain ⟨A, eA⟩ : ∃ A, A = a.toInt := ⟨_, rfl⟩
  obtain ⟨B, eB⟩ : ∃ B, B = b.toInt := ⟨_, rfl⟩
  obtain ⟨C, eC⟩ : ∃ C, C = c9.toInt := ⟨_, rfl⟩
  have tA : ∀ x : Int64, x = a.toInt64 → x.toInt = A := fun x hx => by rw [hx, eA]; exact Jvm.Kit.i64_of_i32 a
  have tB9 : ∀ x : Int64, x = b.toInt64 → x.toInt = B := fun x hx => by rw [hx, eB]; exact Jvm.Kit.i64_of_i32 b
  have tC : ∀ x : Int64, x = c9.toInt64 → x.toInt = C := fun x hx => by rw [hx, eC]; exact Jvm.Kit.i64_of_i32 c9
  have hAr : -2147483648 ≤ A ∧ A < 2147483648 := by rw [eA]; exact i32_rng a
  have hBr : -2147483648 ≤ B ∧ B < 2147483648 := by rw [eB]; exact i32_rng b
  have hCr : -2147483648 ≤ C ∧ C < 2147483648 := by rw [eC]; exact i32_rng c9
  have E99 : ∀ (v : Int32) (H : Heap) (locs : List Loc) (ls : Array Slot), (v = 1 ∧ akOk d A B C ∨ v = 0 ∧ ¬ akOk d A B C) → Ms z g s.heap H locs s → lv_has ls 5 [(0, .ref (oM z)), (1, .int a), (2, .int b), (3, .int c9)] → W p l e ({ frames := 3, cells := 0, slots := 0, locals := 81 } : Room) s m ([.ref (oM z), .int a, .int b, .int c9] : List Value).toArray below meth c H locs 0 0 (MQ below (va_Qv (fun g2 => (akOk d a.toInt b.toInt c9.toInt → g2.1 = 0 ∧ mS g2 d a.toInt b.toInt c9.toInt) ∧ (¬ akOk d a.toInt b.toInt c9.toInt → g2 = mC g 1)) (mO z sz) (yA z sz)) ([.ref (oM z), .int a, .int b, .int c9] : List Value).toArray s 0 0 (yA z sz)) (F0 m 99 ls [.int v]) := by
    intro v H locs ls hv hU hl
    refine lv_istore (lv' := [(4, .int v), (0, .ref (oM z)), (1, .int a), (2, .int b), (3, .int c9)]) hx hb d_M_ask_99 hl (by decide) rfl (fun ls hl => ?_)
    refine lv_aload_n hx hb d_M_ask_101 rfl (lv_at hl 1 rfl) ?_
    refine lv_iload hx hb d_M_ask_102 (lv_at hl 0 rfl) ?_
    refine lv_if_eq (tgt := 111) hx hb d_M_ask_104 (by decide) (fun c104 => ?_) (fun c104 => ?_)
    · have hv0 : v = 0 ∧ ¬ akOk d A B C := hv.resolve_left fun q => absurd (q.1.symm.trans c104) (by decide)
      refine lv_iconst (v := 1) hx hb d_M_ask_111 (by decide) ?_
      refine mp_C hx hb hts hown hU (hts _ k_M_23) d_M_ask_112 (fun H locs hU => ?_)
      generalize eg112 : mC g 1 = g112 at hU
      refine lv_iload hx hb d_M_ask_115 (lv_at hl 0 rfl) ?_
      refine lv_if_eq (tgt := 130) hx hb d_M_ask_117 (by decide) (fun c117 => ?_) (fun c117 => ?_)
      · exact m_vret hx hb hr hlocks hsz hU ⟨fun q => absurd (by rw [eA, eB, eC]; exact q) hv0.2, fun _ => by first | exact eg112.symm | rfl⟩ d_M_ask_130
      · exact absurd c104 c117
    · have hv1 : v = 1 ∧ akOk d A B C := hv.resolve_right fun q => c104 q.1
      refine lv_iconst (v := 0) hx hb d_M_ask_107 (by decide) ?_
      refine lv_goto (tgt := 112) hx hb d_M_ask_108 (by decide) ?_
      refine mp_C hx hb hts hown hU (hts _ k_M_23) d_M_ask_112 (fun H locs hU => ?_)
      generalize eg112 : mC g 0 = g112 at hU
      refine lv_iload hx hb d_M_ask_115 (lv_at hl 0 rfl) ?_
      refine lv_if_eq (tgt := 130) hx hb d_M_ask_117 (by decide) (fun c117 => ?_) (fun c117 => ?_)
      · exact absurd c117 c104
      · refine lv_aload_n hx hb d_M_ask_120 rfl (lv_at hl 1 rfl) ?_
        refine lv_iload_n hx hb d_M_ask_121 rfl (lv_at hl 2 rfl) ?_
        refine lv_i2l hx hb d_M_ask_122 rfl ?_
        refine lv_topl (fun x122 ex122 => ?_)
        refine lv_iload_n hx hb d_M_ask_123 rfl (lv_at hl 3 rfl) ?_
        refine lv_i2l hx hb d_M_ask_124 rfl ?_
        refine lv_topl (fun x124 ex124 => ?_)
        refine lv_iload_n hx hb d_M_ask_125 rfl (lv_at hl 4 rfl) ?_
        refine lv_i2l hx hb d_M_ask_126 rfl ?_
        refine lv_topl (fun x126 ex126 => ?_)
        have u1 := tA x122 ex122
        have u2 := tB9 x124 ex124
        have u3 := tC x126 ex126
        obtain ⟨s1, s2, s3, s4, ⟨s5, s6, s7, s8⟩, -⟩ := hS
        have hf : g112.2.2.2.2.2 = g.2.2.2.2.2 := by rw [← eg112]; rfl
        refine m_callv (m_run (As := [.long x122, .long x124, .long x126]) (rest := []) hx hb hml hown hts hU (cm_turn l z _ g112 hub.1 hub.2 (a := x122) (b := x124) (c9 := x126) (by omega) (by omega) (by omega) (by omega) (by omega) (by omega) (by rw [hf]; exact s4) (by rw [hf]; exact s5) (by rw [hf]; exact s6)) (w_M_turn_cw hts k_M_61 rfl rfl ⟨Nat.le_of_ble_eq_true rfl, Nat.le_of_ble_eq_true rfl⟩) (m_recv hU) rfl hl.1 rfl (lv_room (Nat.le_of_ble_eq_true rfl)) d_M_ask_127 ⟨Nat.zero_le _, Nat.zero_le _⟩) hU (fun g127 H locs hp hU => ?_)
        obtain ⟨f, rfl, k1, k2, k3, k4, k5, k6⟩ := hp
        rw [u2] at k3 k6
        rw [u3] at k4
        rw [u1] at k5
        rw [hf] at k2
        have keep : ∀ i, i < 2 ∨ (5 < i ∧ i < 11) → sv f i = sv g.2.2.2.2.2 i := fun i hi => sv_eq (dv_congr fun q hq => k2 _ (by omega))
        have q1 : (mF g112 f).1 = 0 := by rw [← eg112]; rfl
        have q2 : (mF g112 f).2.1 = g.2.1 := by rw [← eg112]; rfl
        have q3 : (mF g112 f).2.2.1 = g.2.2.1 := by rw [← eg112]; rfl
        have q4 : (mF g112 f).2.2.2.1 = g.2.2.2.1 := by rw [← eg112]; rfl
        exact m_vret hx hb hr hlocks hsz hU ⟨fun _ => ⟨q1, by
          rw [← eA, ← eB, ← eC]
          exact ⟨by rw [q2]; exact s1, by rw [q3]; exact s2, by rw [q4]; exact s3, k1, ⟨(keep 0 (by omega)).trans s5, (keep 1 (by omega)).trans s6, (keep 6 (by omega)).trans s7, (keep 7 (by omega)).trans s8⟩, k3, k4, k5, k6⟩⟩, fun q => absurd (by rw [← eA, ← eB, ← eC]; exact hv1.2) q⟩ d_M_ask_130
  have E47 : ∀ (v : Int32) (H : Heap) (locs : List Loc) (ls : Array Slot), (v = 1 ∧ szOk A B C ∨ v = 0 ∧ ¬ szOk A B C) → Ms z g s.heap H locs s → lv_has ls 5 [(0, .ref (oM z)), (1, .int a), (2, .int b), (3, .int c9)] → W p l e ({ frames := 3, cells := 0, slots := 0, locals := 81 } : Room) s m ([.ref (oM z), .int a, .int b, .int c9] : List Value).toArray below meth c H locs 0 0 (MQ below (va_Qv (fun g2 => (akOk d a.toInt b.toInt c9.toInt → g2.1 = 0 ∧ mS g2 d a.toInt b.toInt c9.toInt) ∧ (¬ akOk d a.toInt b.toInt c9.toInt → g2 = mC g 1)) (mO z sz) (yA z sz)) ([.ref (oM z), .int a, .int b, .int c9] : List Value).toArray s 0 0 (yA z sz)) (F0 m 47 ls [.int v]) := by
    intro v H locs ls hv hU hl
    refine lv_istore (lv' := [(4, .int v), (0, .ref (oM z)), (1, .int a), (2, .int b), (3, .int c9)]) hx hb d_M_ask_47 hl (by decide) rfl (fun ls hl => ?_)
    refine lv_iload hx hb d_M_ask_49 (lv_at hl 0 rfl) ?_
    refine lv_if_eq (tgt := 98) hx hb d_M_ask_51 (by decide) (fun c51 => ?_) (fun c51 => ?_)
    · have hv0 : v = 0 ∧ ¬ szOk A B C := hv.resolve_left fun q => absurd (q.1.symm.trans c51) (by decide)
      refine lv_iconst (v := 0) hx hb d_M_ask_98 (by decide) ?_
      exact E99 0 _ _ ls (Or.inr ⟨rfl, fun q => hv0.2 q.1⟩) hU (lv_sub hl [1, 2, 3, 4] rfl)
    · have hv1 : v = 1 ∧ szOk A B C := hv.resolve_right fun q => c51 q.1
      have hz := hv1.2
      have m1 := mb30 hz.2.1 hz.2.1
      have m2 := mb30 hz.1 hz.2.2
      have m3 := hz.1
      have hac : 4 * A * C = 4 * (A * C) := Int.mul_assoc 4 A C
      refine lv_iload_n hx hb d_M_ask_54 rfl (lv_at hl 3 rfl) ?_
      refine lv_i2l hx hb d_M_ask_55 rfl ?_
      refine lv_topl (fun x55 ex55 => ?_)
      refine lv_iload_n hx hb d_M_ask_56 rfl (lv_at hl 3 rfl) ?_
      refine lv_i2l hx hb d_M_ask_57 rfl ?_
      refine lv_topl (fun x57 ex57 => ?_)
      refine lv_lmul hx hb d_M_ask_58 ?_
      refine lv_topl (fun x58 ex58 => ?_)
      refine lv_ldc2 (v := 4) hx hb hown (hts _ k_M_59) d_M_ask_59 ?_
      refine lv_iload_n hx hb d_M_ask_62 rfl (lv_at hl 2 rfl) ?_
      refine lv_i2l hx hb d_M_ask_63 rfl ?_
      refine lv_topl (fun x63 ex63 => ?_)
      refine lv_lmul hx hb d_M_ask_64 ?_
      refine lv_topl (fun x64 ex64 => ?_)
      refine lv_iload_n hx hb d_M_ask_65 rfl (lv_at hl 4 rfl) ?_
      refine lv_i2l hx hb d_M_ask_66 rfl ?_
      refine lv_topl (fun x66 ex66 => ?_)
      refine lv_lmul hx hb d_M_ask_67 ?_
      refine lv_topl (fun x67 ex67 => ?_)
      refine lv_lsub hx hb d_M_ask_68 ?_
      refine lv_topl (fun x68 ex68 => ?_)
      refine lv_aload_n hx hb d_M_ask_69 rfl (lv_at hl 1 rfl) ?_
      refine va_get (D := z.1) (ci := 3) (v := .long g.2.1) (C := R_M) (T := F_M) (N := 9) hx hb hts in_M hown hU.2.1 hU.1 0 rfl rfl 1 (by decide) (hts _ k_M_9) (fun _ h9 => h9) rfl d_M_ask_70 ?_
      refine lv_topl (fun x70 ex70 => ?_)
      refine W.lcmp hx hb d_M_ask_73 ?_
      have t58 : x58.toInt = B * B := by rw [ex58, Jvm.Kit.i64_mul] <;> rw [tB9 x55 ex55, tB9 x57 ex57] <;> omega
      have t64 : x64.toInt = 4 * A := by rw [ex64, Jvm.Kit.i64_mul] <;> rw [tA x63 ex63, show (4 : Int64).toInt = 4 from rfl] <;> omega
      have t67 : x67.toInt = 4 * A * C := by rw [ex67, Jvm.Kit.i64_mul] <;> rw [t64, tC x66 ex66] <;> rw [hac] <;> omega
      have t68 : x68.toInt = B * B - 4 * A * C := by rw [ex68, Jvm.Kit.i64_sub] <;> rw [t58, t67] <;> rw [hac] <;> omega
      have t70 : x70.toInt = d := by rw [ex70]; exact hS.1
      refine lv_if_ne (tgt := 98) hx hb d_M_ask_74 (by decide) (fun c74 => ?_) (fun c74 => ?_)
      · have h74 : ¬ akOk d A B C := fun q => c74 ((lg_cmp_eq _ _).mpr (Int64.toInt_inj.mp (by rw [t68, t70]; exact q.2.1)))
        refine lv_iconst (v := 0) hx hb d_M_ask_98 (by decide) ?_
        exact E99 0 _ _ ls (Or.inr ⟨rfl, h74⟩) hU (lv_sub hl [1, 2, 3, 4] rfl)
      · have h74 : B * B - 4 * A * C = d := by
          have q := (lg_cmp_eq _ _).mp c74
          rw [← t68, ← t70, q]
        refine lv_iload_n hx hb d_M_ask_77 rfl (lv_at hl 2 rfl) ?_
        refine lv_i2l hx hb d_M_ask_78 rfl ?_
        refine lv_topl (fun x78 ex78 => ?_)
        refine lv_iload_n hx hb d_M_ask_79 rfl (lv_at hl 3 rfl) ?_
        refine lv_i2l hx hb d_M_ask_80 rfl ?_
        refine lv_topl (fun x80 ex80 => ?_)
        have v78 := tA x78 ex78
        have v80 := tB9 x80 ex80
        refine pr_call (As := [.long x78, .long x80]) (rest := []) hx hb hml hown hts (cm_common l (x := x78) (y := x80) (by omega) (by omega)) (w_M_common_cw hts k_M_99 rfl rfl ⟨Nat.le_of_ble_eq_true rfl, Nat.le_of_ble_eq_true rfl⟩) rfl hl.1 rfl (lv_room (Nat.le_of_ble_eq_true rfl)) d_M_ask_81 ⟨Nat.zero_le _, Nat.zero_le _⟩ ?_
        refine lv_topl (fun x81 ex81 => ?_)
        rw [v78, v80] at ex81
        have hgl : Nat.gcd A.natAbs B.natAbs ≤ 1073741824 := gcd_le' (by have := hz.1; omega) (by have := hz.2.1; omega)
        have t81 : x81.toInt.natAbs = Nat.gcd A.natAbs B.natAbs := by rw [ex81, pk_lT (by omega)]; rfl
        refine lv_iload_n hx hb d_M_ask_84 rfl (lv_at hl 4 rfl) ?_
        refine lv_i2l hx hb d_M_ask_85 rfl ?_
        refine lv_topl (fun x85 ex85 => ?_)
        have v85 := tC x85 ex85
        have hz3 := hz.2.2
        refine pr_call (As := [.long x81, .long x85]) (rest := []) hx hb hml hown hts (cm_common l (x := x81) (y := x85) (by omega) (by omega)) (w_M_common_cw hts k_M_99 rfl rfl ⟨Nat.le_of_ble_eq_true rfl, Nat.le_of_ble_eq_true rfl⟩) rfl hl.1 rfl (lv_room (Nat.le_of_ble_eq_true rfl)) d_M_ask_86 ⟨Nat.zero_le _, Nat.zero_le _⟩ ?_
        refine lv_topl (fun x86 ex86 => ?_)
        rw [t81, v85] at ex86
        have hgl2 : Nat.gcd (Nat.gcd A.natAbs B.natAbs) C.natAbs ≤ 1073741824 := gcd_le' hgl (by omega)
        refine lv_lconst (v := 1) hx hb d_M_ask_89 (by decide) ?_
        refine W.lcmp hx hb d_M_ask_90 ?_
        refine lv_if_ne (tgt := 98) hx hb d_M_ask_91 (by decide) (fun c91 => ?_) (fun c91 => ?_)
        · have h91 : ¬ akOk d A B C := fun q => c91 ((lg_cmp_eq _ _).mpr (by rw [ex86, q.2.2]; rfl))
          refine lv_iconst (v := 0) hx hb d_M_ask_98 (by decide) ?_
          exact E99 0 _ _ ls (Or.inr ⟨rfl, h91⟩) hU (lv_sub hl [1, 2, 3, 4] rfl)
        · have h91 : Nat.gcd (Nat.gcd A.natAbs B.natAbs) C.natAbs = 1 := by
            have q := (lg_cmp_eq _ _).mp c91
            rw [ex86, show (1 : Int64) = lN 1 from rfl, pk_lEQ (by omega) (by decide)] at q
            exact q
          refine lv_iconst (v := 1) hx hb d_M_ask_94 (by decide) ?_
          refine lv_goto (tgt := 99) hx hb d_M_ask_95 (by decide) ?_
          exact E99 1 _ _ ls (Or.inl ⟨rfl, hz, h74, h91⟩) hU (lv_sub hl [1, 2, 3, 4] rfl)
  have L1 : (-1073741824 : Int64).toInt = -1073741824 := rfl
  have L2 : (1073741824 : Int64).toInt = 1073741824 := rfl
  refine lv_iload_n hx hb d_M_ask_0 rfl (lv_at hl 1 rfl) ?_
  refine lv_i2l hx hb d_M_ask_1 rfl ?_
  refine lv_topl (fun x1 ex1 => ?_)
  refine lv_ldc2 (v := (-1073741824)) hx hb hown (hts _ k_M_95) d_M_ask_2 ?_
  refine lv_ldc2 (v := 1073741824) hx hb hown (hts _ k_M_97) d_M_ask_5 ?_
  refine pr_call (As := [.long x1, .long (-1073741824), .long 1073741824]) (rest := []) hx hb hml hown hts (cm_in l x1 (-1073741824) 1073741824) (w_M_in_cw hts k_M_88 rfl rfl ⟨Nat.le_of_ble_eq_true rfl, Nat.le_of_ble_eq_true rfl⟩) rfl hl.1 rfl (lv_room (Nat.le_of_ble_eq_true rfl)) d_M_ask_8 ⟨Nat.zero_le _, Nat.zero_le _⟩ ?_
  refine lv_topi (fun x8 ex8 => ?_)
  rw [tA x1 ex1, L1, L2] at ex8
  refine lv_if_eq (tgt := 46) hx hb d_M_ask_11 (by decide) (fun c11 => ?_) (fun c11 => ?_)
  · have h11 : ¬ szOk A B C := fun q => by rw [ex8, if_pos q.1] at c11; exact absurd c11 (by decide)
    refine lv_iconst (v := 0) hx hb d_M_ask_46 (by decide) ?_
    exact E47 0 _ _ ls (Or.inr ⟨rfl, h11⟩) hU hl
  · have h11 := Classical.byContradiction fun q => c11 (by rw [ex8, if_neg q])
    refine lv_iload_n hx hb d_M_ask_14 rfl (lv_at hl 2 rfl) ?_
    refine lv_i2l hx hb d_M_ask_15 rfl ?_
    refine lv_topl (fun x15 ex15 => ?_)
    refine lv_ldc2 (v := (-1073741824)) hx hb hown (hts _ k_M_95) d_M_ask_16 ?_
    refine lv_ldc2 (v := 1073741824) hx hb hown (hts _ k_M_97) d_M_ask_19 ?_
    refine pr_call (As := [.long x15, .long (-1073741824), .long 1073741824]) (rest := []) hx hb hml hown hts (cm_in l x15 (-1073741824) 1073741824) (w_M_in_cw hts k_M_88 rfl rfl ⟨Nat.le_of_ble_eq_true rfl, Nat.le_of_ble_eq_true rfl⟩) rfl hl.1 rfl (lv_room (Nat.le_of_ble_eq_true rfl)) d_M_ask_22 ⟨Nat.zero_le _, Nat.zero_le _⟩ ?_
    refine lv_topi (fun x22 ex22 => ?_)
    rw [tB9 x15 ex15, L1, L2] at ex22
    refine lv_if_eq (tgt := 46) hx hb d_M_ask_25 (by decide) (fun c25 => ?_) (fun c25 => ?_)
    · have h25 : ¬ szOk A B C := fun q => by rw [ex22, if_pos q.2.1] at c25; exact absurd c25 (by decide)
      refine lv_iconst (v := 0) hx hb d_M_ask_46 (by decide) ?_
      exact E47 0 _ _ ls (Or.inr ⟨rfl, h25⟩) hU hl
    · have h25 := Classical.byContradiction fun q => c25 (by rw [ex22, if_neg q])
      refine lv_iload_n hx hb d_M_ask_28 rfl (lv_at hl 3 rfl) ?_
      refine lv_i2l hx hb d_M_ask_29 rfl ?_
      refine lv_topl (fun x29 ex29 => ?_)
      refine lv_ldc2 (v := (-1073741824)) hx hb hown (hts _ k_M_95) d_M_ask_30 ?_
      refine lv_ldc2 (v := 1073741824) hx hb hown (hts _ k_M_97) d_M_ask_33 ?_
      refine pr_call (As := [.long x29, .long (-1073741824), .long 1073741824]) (rest := []) hx hb hml hown hts (cm_in l x29 (-1073741824) 1073741824) (w_M_in_cw hts k_M_88 rfl rfl ⟨Nat.le_of_ble_eq_true rfl, Nat.le_of_ble_eq_true rfl⟩) rfl hl.1 rfl (lv_room (Nat.le_of_ble_eq_true rfl)) d_M_ask_36 ⟨Nat.zero_le _, Nat.zero_le _⟩ ?_
      refine lv_topi (fun x36 ex36 => ?_)
      rw [tC x29 ex29, L1, L2] at ex36
      refine lv_if_eq (tgt := 46) hx hb d_M_ask_39 (by decide) (fun c39 => ?_) (fun c39 => ?_)
      · have h39 : ¬ szOk A B C := fun q => by rw [ex36, if_pos q.2.2] at c39; exact absurd c39 (by decide)
        refine lv_iconst (v := 0) hx hb d_M_ask_46 (by decide) ?_
        exact E47 0 _ _ ls (Or.inr ⟨rfl, h39⟩) hU hl
      · have h39 := Classical.byContradiction fun q => c39 (by rw [ex36, if_neg q])
        refine lv_iconst (v := 1) hx hb d_M_ask_42 (by decide) ?_
        refine lv_goto (tgt := 47) hx hb d_M_ask_43 (by decide) ?_
        exact E47 1 _ _ ls (Or.inl ⟨rfl, h11, h25, h39⟩) hU hl
end
