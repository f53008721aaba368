section
-- ===== PART A: goes FIRST, ahead of the names: the tables' words, and 'selects' of the private methods out of them =====
/-- a private method of a class that the tables say can be made, by its rows of tables_1 -/
def lw_okq (q : MethodName × Nat) : Prop := (q.1.cls ≠ "java/lang/invoke/MethodHandle" ∧ q.1.cls ≠ "java/lang/invoke/VarHandle") ∧ Cond.instantiable q.1.cls q.2 ∈ tables_1 ∧ Cond.privateMethod q.1 ∈ tables_1 ∧ Cond.instanceMethod q.1 ∈ tables_1
theorem lw_p0 : lw_okq (⟨"ConicKinds", "isNoPlace", "(I)Z"⟩, 8) := ⟨⟨by decide +kernel, by decide +kernel⟩, List.mem_of_getElem? (i := 12) (by decide +kernel), List.mem_of_getElem? (i := 79) (by decide +kernel), List.mem_of_getElem? (i := 80) (by decide +kernel)⟩
theorem lw_p1 : lw_okq (⟨"ConicKinds", "kindOf", "([JI)I"⟩, 8) := ⟨⟨by decide +kernel, by decide +kernel⟩, List.mem_of_getElem? (i := 12) (by decide +kernel), List.mem_of_getElem? (i := 94) (by decide +kernel), List.mem_of_getElem? (i := 95) (by decide +kernel)⟩
theorem lw_p2 : lw_okq (⟨"ConicKinds$Table", "expand", "()V"⟩, 5) := ⟨⟨by decide +kernel, by decide +kernel⟩, List.mem_of_getElem? (i := 20) (by decide +kernel), List.mem_of_getElem? (i := 103) (by decide +kernel), List.mem_of_getElem? (i := 104) (by decide +kernel)⟩
theorem lw_p3 : lw_okq (⟨"ConicKinds$Table", "multiply", "()V"⟩, 5) := ⟨⟨by decide +kernel, by decide +kernel⟩, List.mem_of_getElem? (i := 20) (by decide +kernel), List.mem_of_getElem? (i := 111) (by decide +kernel), List.mem_of_getElem? (i := 112) (by decide +kernel)⟩
theorem lw_p4 : lw_okq (⟨"ConicKinds$Table", "diagonal", "()J"⟩, 5) := ⟨⟨by decide +kernel, by decide +kernel⟩, List.mem_of_getElem? (i := 20) (by decide +kernel), List.mem_of_getElem? (i := 115) (by decide +kernel), List.mem_of_getElem? (i := 116) (by decide +kernel)⟩
theorem lw_p5 : lw_okq (⟨"ConicKinds", "takePoint", "(IIII)Z"⟩, 8) := ⟨⟨by decide +kernel, by decide +kernel⟩, List.mem_of_getElem? (i := 12) (by decide +kernel), List.mem_of_getElem? (i := 212) (by decide +kernel), List.mem_of_getElem? (i := 213) (by decide +kernel)⟩
theorem lw_p6 : lw_okq (⟨"ConicKinds", "setRow", "([JJJJJ)V"⟩, 8) := ⟨⟨by decide +kernel, by decide +kernel⟩, List.mem_of_getElem? (i := 12) (by decide +kernel), List.mem_of_getElem? (i := 216) (by decide +kernel), List.mem_of_getElem? (i := 217) (by decide +kernel)⟩
theorem lw_p7 : lw_okq (⟨"ConicKinds", "formOf", "([J[J)J"⟩, 8) := ⟨⟨by decide +kernel, by decide +kernel⟩, List.mem_of_getElem? (i := 12) (by decide +kernel), List.mem_of_getElem? (i := 223) (by decide +kernel), List.mem_of_getElem? (i := 224) (by decide +kernel)⟩
theorem lw_p8 : lw_okq (⟨"ConicKinds", "rowTimes", "(I[J)J"⟩, 8) := ⟨⟨by decide +kernel, by decide +kernel⟩, List.mem_of_getElem? (i := 12) (by decide +kernel), List.mem_of_getElem? (i := 227) (by decide +kernel), List.mem_of_getElem? (i := 228) (by decide +kernel)⟩
theorem lw_p9 : lw_okq (⟨"ConicKinds", "cutInto", "([JI)V"⟩, 8) := ⟨⟨by decide +kernel, by decide +kernel⟩, List.mem_of_getElem? (i := 12) (by decide +kernel), List.mem_of_getElem? (i := 252) (by decide +kernel), List.mem_of_getElem? (i := 253) (by decide +kernel)⟩
theorem lw_p10 : lw_okq (⟨"ConicKinds", "cutCell", "(III)J"⟩, 8) := ⟨⟨by decide +kernel, by decide +kernel⟩, List.mem_of_getElem? (i := 12) (by decide +kernel), List.mem_of_getElem? (i := 256) (by decide +kernel), List.mem_of_getElem? (i := 257) (by decide +kernel)⟩
theorem lw_p11 : lw_okq (⟨"ConicKinds", "takeLines", "(I)I"⟩, 8) := ⟨⟨by decide +kernel, by decide +kernel⟩, List.mem_of_getElem? (i := 12) (by decide +kernel), List.mem_of_getElem? (i := 268) (by decide +kernel), List.mem_of_getElem? (i := 269) (by decide +kernel)⟩
theorem lw_p12 : lw_okq (⟨"ConicKinds", "takeFormRow", "(I)V"⟩, 8) := ⟨⟨by decide +kernel, by decide +kernel⟩, List.mem_of_getElem? (i := 12) (by decide +kernel), List.mem_of_getElem? (i := 273) (by decide +kernel), List.mem_of_getElem? (i := 274) (by decide +kernel)⟩
theorem lw_p13 : lw_okq (⟨"ConicKinds", "joinLines", "()Z"⟩, 8) := ⟨⟨by decide +kernel, by decide +kernel⟩, List.mem_of_getElem? (i := 12) (by decide +kernel), List.mem_of_getElem? (i := 277) (by decide +kernel), List.mem_of_getElem? (i := 278) (by decide +kernel)⟩
theorem lw_p14 : lw_okq (⟨"ConicKinds", "addCrosswise", "(JJJ)V"⟩, 8) := ⟨⟨by decide +kernel, by decide +kernel⟩, List.mem_of_getElem? (i := 12) (by decide +kernel), List.mem_of_getElem? (i := 284) (by decide +kernel), List.mem_of_getElem? (i := 285) (by decide +kernel)⟩
theorem lw_p15 : lw_okq (⟨"ConicKinds", "readLines", "()Z"⟩, 8) := ⟨⟨by decide +kernel, by decide +kernel⟩, List.mem_of_getElem? (i := 12) (by decide +kernel), List.mem_of_getElem? (i := 288) (by decide +kernel), List.mem_of_getElem? (i := 289) (by decide +kernel)⟩
def lw_privs_1 : List (MethodName × Nat) := [(⟨"ConicKinds", "isNoPlace", "(I)Z"⟩, 8), (⟨"ConicKinds", "kindOf", "([JI)I"⟩, 8), (⟨"ConicKinds$Table", "expand", "()V"⟩, 5), (⟨"ConicKinds$Table", "multiply", "()V"⟩, 5), (⟨"ConicKinds$Table", "diagonal", "()J"⟩, 5), (⟨"ConicKinds", "takePoint", "(IIII)Z"⟩, 8), (⟨"ConicKinds", "setRow", "([JJJJJ)V"⟩, 8), (⟨"ConicKinds", "formOf", "([J[J)J"⟩, 8), (⟨"ConicKinds", "rowTimes", "(I[J)J"⟩, 8), (⟨"ConicKinds", "cutInto", "([JI)V"⟩, 8), (⟨"ConicKinds", "cutCell", "(III)J"⟩, 8), (⟨"ConicKinds", "takeLines", "(I)I"⟩, 8), (⟨"ConicKinds", "takeFormRow", "(I)V"⟩, 8), (⟨"ConicKinds", "joinLines", "()Z"⟩, 8), (⟨"ConicKinds", "addCrosswise", "(JJJ)V"⟩, 8), (⟨"ConicKinds", "readLines", "()Z"⟩, 8)]
theorem lw_r1 : ∀ q ∈ lw_privs_1, lw_okq q := List.forall_mem_cons.mpr ⟨lw_p0, List.forall_mem_cons.mpr ⟨lw_p1, List.forall_mem_cons.mpr ⟨lw_p2, List.forall_mem_cons.mpr ⟨lw_p3, List.forall_mem_cons.mpr ⟨lw_p4, List.forall_mem_cons.mpr ⟨lw_p5, List.forall_mem_cons.mpr ⟨lw_p6, List.forall_mem_cons.mpr ⟨lw_p7, List.forall_mem_cons.mpr ⟨lw_p8, List.forall_mem_cons.mpr ⟨lw_p9, List.forall_mem_cons.mpr ⟨lw_p10, List.forall_mem_cons.mpr ⟨lw_p11, List.forall_mem_cons.mpr ⟨lw_p12, List.forall_mem_cons.mpr ⟨lw_p13, List.forall_mem_cons.mpr ⟨lw_p14, List.forall_mem_cons.mpr ⟨lw_p15, fun _ h => absurd h List.not_mem_nil⟩⟩⟩⟩⟩⟩⟩⟩⟩⟩⟩⟩⟩⟩⟩⟩
theorem lw_p16 : lw_okq (⟨"ConicKinds", "readLinesAt", "(II)Z"⟩, 8) := ⟨⟨by decide +kernel, by decide +kernel⟩, List.mem_of_getElem? (i := 12) (by decide +kernel), List.mem_of_getElem? (i := 292) (by decide +kernel), List.mem_of_getElem? (i := 293) (by decide +kernel)⟩
theorem lw_p17 : lw_okq (⟨"java/lang/Throwable", "fillInStackTrace", "(I)Ljava/lang/Throwable;"⟩, 6) := ⟨⟨by decide +kernel, by decide +kernel⟩, List.mem_of_getElem? (i := 352) (by decide +kernel), List.mem_of_getElem? (i := 350) (by decide +kernel), List.mem_of_getElem? (i := 351) (by decide +kernel)⟩
theorem lw_p18 : lw_okq (⟨"ConicKindsModel", "ownKind", "()I"⟩, 21) := ⟨⟨by decide +kernel, by decide +kernel⟩, List.mem_of_getElem? (i := 382) (by decide +kernel), List.mem_of_getElem? (i := 473) (by decide +kernel), List.mem_of_getElem? (i := 474) (by decide +kernel)⟩
theorem lw_p19 : lw_okq (⟨"ConicKindsModel", "findAll", "()V"⟩, 21) := ⟨⟨by decide +kernel, by decide +kernel⟩, List.mem_of_getElem? (i := 382) (by decide +kernel), List.mem_of_getElem? (i := 477) (by decide +kernel), List.mem_of_getElem? (i := 478) (by decide +kernel)⟩
theorem lw_p20 : lw_okq (⟨"ConicKindsModel", "take", "(Z)V"⟩, 21) := ⟨⟨by decide +kernel, by decide +kernel⟩, List.mem_of_getElem? (i := 382) (by decide +kernel), List.mem_of_getElem? (i := 481) (by decide +kernel), List.mem_of_getElem? (i := 482) (by decide +kernel)⟩
theorem lw_p21 : lw_okq (⟨"ConicKindsModel", "findSigns", "()V"⟩, 21) := ⟨⟨by decide +kernel, by decide +kernel⟩, List.mem_of_getElem? (i := 382) (by decide +kernel), List.mem_of_getElem? (i := 485) (by decide +kernel), List.mem_of_getElem? (i := 486) (by decide +kernel)⟩
theorem lw_p22 : lw_okq (⟨"ConicKindsModel", "sums", "(I)J"⟩, 21) := ⟨⟨by decide +kernel, by decide +kernel⟩, List.mem_of_getElem? (i := 382) (by decide +kernel), List.mem_of_getElem? (i := 489) (by decide +kernel), List.mem_of_getElem? (i := 490) (by decide +kernel)⟩
theorem lw_p23 : lw_okq (⟨"ConicKindsModel", "minor", "(I)J"⟩, 21) := ⟨⟨by decide +kernel, by decide +kernel⟩, List.mem_of_getElem? (i := 382) (by decide +kernel), List.mem_of_getElem? (i := 496) (by decide +kernel), List.mem_of_getElem? (i := 497) (by decide +kernel)⟩
theorem lw_p24 : lw_okq (⟨"ConicKindsModel", "determinantOf", "(I)J"⟩, 21) := ⟨⟨by decide +kernel, by decide +kernel⟩, List.mem_of_getElem? (i := 382) (by decide +kernel), List.mem_of_getElem? (i := 500) (by decide +kernel), List.mem_of_getElem? (i := 501) (by decide +kernel)⟩
theorem lw_p25 : lw_okq (⟨"ConicKindsModel", "swapRows", "(II)V"⟩, 21) := ⟨⟨by decide +kernel, by decide +kernel⟩, List.mem_of_getElem? (i := 382) (by decide +kernel), List.mem_of_getElem? (i := 504) (by decide +kernel), List.mem_of_getElem? (i := 505) (by decide +kernel)⟩
theorem lw_p26 : lw_okq (⟨"ConicKindsModel", "kindOf", "(Z)I"⟩, 21) := ⟨⟨by decide +kernel, by decide +kernel⟩, List.mem_of_getElem? (i := 382) (by decide +kernel), List.mem_of_getElem? (i := 508) (by decide +kernel), List.mem_of_getElem? (i := 509) (by decide +kernel)⟩
theorem lw_p27 : lw_okq (⟨"ConicKindsModel", "rank", "(Z)I"⟩, 21) := ⟨⟨by decide +kernel, by decide +kernel⟩, List.mem_of_getElem? (i := 382) (by decide +kernel), List.mem_of_getElem? (i := 524) (by decide +kernel), List.mem_of_getElem? (i := 525) (by decide +kernel)⟩
theorem lw_p28 : lw_okq (⟨"ConicKindsModel", "isPoint", "(IIII)Z"⟩, 21) := ⟨⟨by decide +kernel, by decide +kernel⟩, List.mem_of_getElem? (i := 382) (by decide +kernel), List.mem_of_getElem? (i := 557) (by decide +kernel), List.mem_of_getElem? (i := 558) (by decide +kernel)⟩
theorem lw_p29 : lw_okq (⟨"ConicKindsModel", "polarAt", "(I)J"⟩, 21) := ⟨⟨by decide +kernel, by decide +kernel⟩, List.mem_of_getElem? (i := 382) (by decide +kernel), List.mem_of_getElem? (i := 561) (by decide +kernel), List.mem_of_getElem? (i := 562) (by decide +kernel)⟩
theorem lw_p30 : lw_okq (⟨"ConicKindsModel", "without", "(II)J"⟩, 21) := ⟨⟨by decide +kernel, by decide +kernel⟩, List.mem_of_getElem? (i := 382) (by decide +kernel), List.mem_of_getElem? (i := 569) (by decide +kernel), List.mem_of_getElem? (i := 570) (by decide +kernel)⟩
theorem lw_p31 : lw_okq (⟨"ConicKindsModel", "layBase", "(IIII)V"⟩, 21) := ⟨⟨by decide +kernel, by decide +kernel⟩, List.mem_of_getElem? (i := 382) (by decide +kernel), List.mem_of_getElem? (i := 582) (by decide +kernel), List.mem_of_getElem? (i := 583) (by decide +kernel)⟩
def lw_privs_2 : List (MethodName × Nat) := [(⟨"ConicKinds", "readLinesAt", "(II)Z"⟩, 8), (⟨"java/lang/Throwable", "fillInStackTrace", "(I)Ljava/lang/Throwable;"⟩, 6), (⟨"ConicKindsModel", "ownKind", "()I"⟩, 21), (⟨"ConicKindsModel", "findAll", "()V"⟩, 21), (⟨"ConicKindsModel", "take", "(Z)V"⟩, 21), (⟨"ConicKindsModel", "findSigns", "()V"⟩, 21), (⟨"ConicKindsModel", "sums", "(I)J"⟩, 21), (⟨"ConicKindsModel", "minor", "(I)J"⟩, 21), (⟨"ConicKindsModel", "determinantOf", "(I)J"⟩, 21), (⟨"ConicKindsModel", "swapRows", "(II)V"⟩, 21), (⟨"ConicKindsModel", "kindOf", "(Z)I"⟩, 21), (⟨"ConicKindsModel", "rank", "(Z)I"⟩, 21), (⟨"ConicKindsModel", "isPoint", "(IIII)Z"⟩, 21), (⟨"ConicKindsModel", "polarAt", "(I)J"⟩, 21), (⟨"ConicKindsModel", "without", "(II)J"⟩, 21), (⟨"ConicKindsModel", "layBase", "(IIII)V"⟩, 21)]
theorem lw_r2 : ∀ q ∈ lw_privs_2, lw_okq q := List.forall_mem_cons.mpr ⟨lw_p16, List.forall_mem_cons.mpr ⟨lw_p17, List.forall_mem_cons.mpr ⟨lw_p18, List.forall_mem_cons.mpr ⟨lw_p19, List.forall_mem_cons.mpr ⟨lw_p20, List.forall_mem_cons.mpr ⟨lw_p21, List.forall_mem_cons.mpr ⟨lw_p22, List.forall_mem_cons.mpr ⟨lw_p23, List.forall_mem_cons.mpr ⟨lw_p24, List.forall_mem_cons.mpr ⟨lw_p25, List.forall_mem_cons.mpr ⟨lw_p26, List.forall_mem_cons.mpr ⟨lw_p27, List.forall_mem_cons.mpr ⟨lw_p28, List.forall_mem_cons.mpr ⟨lw_p29, List.forall_mem_cons.mpr ⟨lw_p30, List.forall_mem_cons.mpr ⟨lw_p31, fun _ h => absurd h List.not_mem_nil⟩⟩⟩⟩⟩⟩⟩⟩⟩⟩⟩⟩⟩⟩⟩⟩
theorem lw_p32 : lw_okq (⟨"ConicKindsModel", "layCut", "(I)V"⟩, 21) := ⟨⟨by decide +kernel, by decide +kernel⟩, List.mem_of_getElem? (i := 382) (by decide +kernel), List.mem_of_getElem? (i := 586) (by decide +kernel), List.mem_of_getElem? (i := 587) (by decide +kernel)⟩
theorem lw_p33 : lw_okq (⟨"ConicKindsModel", "formOf", "(II)J"⟩, 21) := ⟨⟨by decide +kernel, by decide +kernel⟩, List.mem_of_getElem? (i := 382) (by decide +kernel), List.mem_of_getElem? (i := 590) (by decide +kernel), List.mem_of_getElem? (i := 591) (by decide +kernel)⟩
theorem lw_p34 : lw_okq (⟨"ConicKindsModel", "findLines", "(I)V"⟩, 21) := ⟨⟨by decide +kernel, by decide +kernel⟩, List.mem_of_getElem? (i := 382) (by decide +kernel), List.mem_of_getElem? (i := 602) (by decide +kernel), List.mem_of_getElem? (i := 603) (by decide +kernel)⟩
theorem lw_p35 : lw_okq (⟨"ConicKindsModel", "setLine", "(IJJJ)V"⟩, 21) := ⟨⟨by decide +kernel, by decide +kernel⟩, List.mem_of_getElem? (i := 382) (by decide +kernel), List.mem_of_getElem? (i := 607) (by decide +kernel), List.mem_of_getElem? (i := 608) (by decide +kernel)⟩
theorem lw_p36 : lw_okq (⟨"ConicKindsModel", "findTwo", "(Z)V"⟩, 21) := ⟨⟨by decide +kernel, by decide +kernel⟩, List.mem_of_getElem? (i := 382) (by decide +kernel), List.mem_of_getElem? (i := 611) (by decide +kernel), List.mem_of_getElem? (i := 612) (by decide +kernel)⟩
theorem lw_p37 : lw_okq (⟨"ConicKindsModel", "isSecondFirst", "()Z"⟩, 21) := ⟨⟨by decide +kernel, by decide +kernel⟩, List.mem_of_getElem? (i := 382) (by decide +kernel), List.mem_of_getElem? (i := 618) (by decide +kernel), List.mem_of_getElem? (i := 619) (by decide +kernel)⟩
def lw_privs_3 : List (MethodName × Nat) := [(⟨"ConicKindsModel", "layCut", "(I)V"⟩, 21), (⟨"ConicKindsModel", "formOf", "(II)J"⟩, 21), (⟨"ConicKindsModel", "findLines", "(I)V"⟩, 21), (⟨"ConicKindsModel", "setLine", "(IJJJ)V"⟩, 21), (⟨"ConicKindsModel", "findTwo", "(Z)V"⟩, 21), (⟨"ConicKindsModel", "isSecondFirst", "()Z"⟩, 21)]
theorem lw_r3 : ∀ q ∈ lw_privs_3, lw_okq q := List.forall_mem_cons.mpr ⟨lw_p32, List.forall_mem_cons.mpr ⟨lw_p33, List.forall_mem_cons.mpr ⟨lw_p34, List.forall_mem_cons.mpr ⟨lw_p35, List.forall_mem_cons.mpr ⟨lw_p36, List.forall_mem_cons.mpr ⟨lw_p37, fun _ h => absurd h List.not_mem_nil⟩⟩⟩⟩⟩⟩
def lw_privs : List (MethodName × Nat) := lw_privs_1 ++ (lw_privs_2 ++ (lw_privs_3))
def lw_tbl : List Cond := k2_sels lw_privs ++ tables_1
theorem lw_privs_ok : ∀ q ∈ lw_privs, lw_okq q := by
  show ∀ q ∈ lw_privs_1 ++ (lw_privs_2 ++ (lw_privs_3)), lw_okq q
  exact List.forall_mem_append.mpr ⟨lw_r1, List.forall_mem_append.mpr ⟨lw_r2, lw_r3⟩⟩
end
section
/-! names of the claim (printed by wip/gen_names.py): classes, fields, methods, the tables' words by their places -/
/-- a long by its whole number -/
def lI (x : Int) : Int64 := Int64.ofInt x
def R_K : String := "ConicKinds"
def R_T : String := "ConicKinds$Table"
def R_M : String := "ConicKindsModel"
def R_L : String := "ConicKindsLaw"
def R_A : String := "java/util/Arrays"
def F_T : u_T := fun k => match k with
  | 0 => ("ConicKinds$Table", "rows", "I", false)
  | 1 => ("ConicKinds$Table", "cells", "[J", true)
  | 2 => ("ConicKinds$Table", "factor", "[J", true)
  | 3 => ("ConicKinds$Table", "product", "[J", true)
  | _ => ("ConicKinds$Table", "coefficients", "[J", true)
def ft_T : Nat → FieldType := fun k => match k with
  | 0 => .int
  | 1 => .array .long
  | 2 => .array .long
  | 3 => .array .long
  | _ => .array .long
theorem n_T : ∀ a, a < 5 → ∀ b, b < 5 → a ≠ b → (F_T a).2.1 ≠ (F_T b).2.1 := by decide +kernel
theorem ft_T_ok : ∀ k, k < 5 → parseFieldDescriptor (F_T k).2.2.1 = some (ft_T k) := by decide +kernel
def F_K : u_T := fun k => match k with
  | 0 => ("ConicKinds", "size", "I", false)
  | 1 => ("ConicKinds", "hasKept", "Z", false)
  | 2 => ("ConicKinds", "form", "[J", true)
  | 3 => ("ConicKinds", "kept", "[J", true)
  | 4 => ("ConicKinds", "table", "LConicKinds$Table;", true)
  | 5 => ("ConicKinds", "work", "[J", true)
  | 6 => ("ConicKinds", "first", "[J", true)
  | _ => ("ConicKinds", "second", "[J", true)
def ft_K : Nat → FieldType := fun k => match k with
  | 0 => .int
  | 1 => .boolean
  | 2 => .array .long
  | 3 => .array .long
  | 4 => .object "ConicKinds$Table"
  | 5 => .array .long
  | 6 => .array .long
  | _ => .array .long
theorem n_K : ∀ a, a < 8 → ∀ b, b < 8 → a ≠ b → (F_K a).2.1 ≠ (F_K b).2.1 := by decide +kernel
theorem ft_K_ok : ∀ k, k < 8 → parseFieldDescriptor (F_K k).2.2.1 = some (ft_K k) := by decide +kernel
def F_M : u_T := fun k => match k with
  | 0 => ("ConicKindsModel", "code", "I", false)
  | 1 => ("ConicKindsModel", "d", "I", false)
  | 2 => ("ConicKindsModel", "m", "[I", true)
  | 3 => ("ConicKindsModel", "isKept", "Z", false)
  | 4 => ("ConicKindsModel", "keptForm", "[I", true)
  | 5 => ("ConicKindsModel", "table", "[J", true)
  | 6 => ("ConicKindsModel", "rows", "I", false)
  | 7 => ("ConicKindsModel", "work", "[J", true)
  | 8 => ("ConicKindsModel", "above", "I", false)
  | 9 => ("ConicKindsModel", "beneath", "I", false)
  | 10 => ("ConicKindsModel", "planes", "[I", true)
  | 11 => ("ConicKindsModel", "spaces", "[I", true)
  | 12 => ("ConicKindsModel", "a0", "I", false)
  | 13 => ("ConicKindsModel", "a1", "I", false)
  | 14 => ("ConicKindsModel", "b0", "I", false)
  | 15 => ("ConicKindsModel", "b1", "I", false)
  | 16 => ("ConicKindsModel", "point", "[J", true)
  | 17 => ("ConicKindsModel", "told", "[J", true)
  | 18 => ("ConicKindsModel", "base", "[J", true)
  | 19 => ("ConicKindsModel", "lines", "[J", true)
  | _ => ("ConicKindsModel", "lineMany", "I", false)
def ft_M : Nat → FieldType := fun k => match k with
  | 0 => .int
  | 1 => .int
  | 2 => .array .int
  | 3 => .boolean
  | 4 => .array .int
  | 5 => .array .long
  | 6 => .int
  | 7 => .array .long
  | 8 => .int
  | 9 => .int
  | 10 => .array .int
  | 11 => .array .int
  | 12 => .int
  | 13 => .int
  | 14 => .int
  | 15 => .int
  | 16 => .array .long
  | 17 => .array .long
  | 18 => .array .long
  | 19 => .array .long
  | _ => .int
theorem n_M : ∀ a, a < 21 → ∀ b, b < 21 → a ≠ b → (F_M a).2.1 ≠ (F_M b).2.1 := by decide +kernel
theorem ft_M_ok : ∀ k, k < 21 → parseFieldDescriptor (F_M k).2.2.1 = some (ft_M k) := by decide +kernel
abbrev vwC : List vw_C := [(R_T, F_T, 5), (R_K, F_K, 8), (R_M, F_M, 21)]
abbrev b_K_init : ByteArray := prog_1_method_1_code
def y_K_init : MethodName := ⟨"ConicKinds", "<init>", "()V"⟩
abbrev b_T_init : ByteArray := prog_2_method_1_code
def y_T_init : MethodName := ⟨"ConicKinds$Table", "<init>", "()V"⟩
abbrev b_K_dimension : ByteArray := prog_1_method_2_code
def y_K_dimension : MethodName := ⟨"ConicKinds", "dimension", "(I)I"⟩
abbrev b_A_fill : ByteArray := prog_12_method_101_code
def y_A_fill : MethodName := ⟨"java/util/Arrays", "fill", "([JJ)V"⟩
abbrev b_K_put : ByteArray := prog_1_method_3_code
def y_K_put : MethodName := ⟨"ConicKinds", "put", "(III)J"⟩
abbrev b_K_isNoPlace : ByteArray := prog_1_method_21_code
def y_K_isNoPlace : MethodName := ⟨"ConicKinds", "isNoPlace", "(I)Z"⟩
abbrev b_K_isBeyond : ByteArray := prog_1_method_23_code
def y_K_isBeyond : MethodName := ⟨"ConicKinds", "isBeyond", "(JI)Z"⟩
abbrev b_K_place : ByteArray := prog_1_method_20_code
def y_K_place : MethodName := ⟨"ConicKinds", "place", "(II)I"⟩
abbrev b_K_kind : ByteArray := prog_1_method_4_code
def y_K_kind : MethodName := ⟨"ConicKinds", "kind", "()I"⟩
abbrev b_K_kindOf : ByteArray := prog_1_method_34_code
def y_K_kindOf : MethodName := ⟨"ConicKinds", "kindOf", "([JI)I"⟩
abbrev b_T_load : ByteArray := prog_2_method_2_code
def y_T_load : MethodName := ⟨"ConicKinds$Table", "load", "([JII)V"⟩
abbrev b_T_expand : ByteArray := prog_2_method_3_code
def y_T_expand : MethodName := ⟨"ConicKinds$Table", "expand", "()V"⟩
abbrev b_T_multiply : ByteArray := prog_2_method_4_code
def y_T_multiply : MethodName := ⟨"ConicKinds$Table", "multiply", "()V"⟩
abbrev b_T_diagonal : ByteArray := prog_2_method_5_code
def y_T_diagonal : MethodName := ⟨"ConicKinds$Table", "diagonal", "()J"⟩
abbrev b_T_countAbove : ByteArray := prog_2_method_11_code
def y_T_countAbove : MethodName := ⟨"ConicKinds$Table", "countAbove", "()I"⟩
abbrev b_T_countBelow : ByteArray := prog_2_method_12_code
def y_T_countBelow : MethodName := ⟨"ConicKinds$Table", "countBelow", "()I"⟩
abbrev b_T_rank : ByteArray := prog_2_method_10_code
def y_T_rank : MethodName := ⟨"ConicKinds$Table", "rank", "()I"⟩
abbrev b_K_codeOf : ByteArray := prog_1_method_35_code
def y_K_codeOf : MethodName := ⟨"ConicKinds", "codeOf", "(IIII)I"⟩
abbrev b_K_kindInPlane : ByteArray := prog_1_method_36_code
def y_K_kindInPlane : MethodName := ⟨"ConicKinds", "kindInPlane", "(I)I"⟩
abbrev b_K_kindInSpace : ByteArray := prog_1_method_37_code
def y_K_kindInSpace : MethodName := ⟨"ConicKinds", "kindInSpace", "(I)I"⟩
abbrev b_K_signs : ByteArray := prog_1_method_5_code
def y_K_signs : MethodName := ⟨"ConicKinds", "signs", "(I)I"⟩
abbrev b_K_determinant : ByteArray := prog_1_method_6_code
def y_K_determinant : MethodName := ⟨"ConicKinds", "determinant", "(I)J"⟩
abbrev b_T_sumOfValues : ByteArray := prog_2_method_8_code
def y_T_sumOfValues : MethodName := ⟨"ConicKinds$Table", "sumOfValues", "()J"⟩
abbrev b_T_sumOfPairs : ByteArray := prog_2_method_9_code
def y_T_sumOfPairs : MethodName := ⟨"ConicKinds$Table", "sumOfPairs", "()J"⟩
abbrev b_T_productOfValues : ByteArray := prog_2_method_7_code
def y_T_productOfValues : MethodName := ⟨"ConicKinds$Table", "productOfValues", "()J"⟩
abbrev b_K_middles : ByteArray := prog_1_method_7_code
def y_K_middles : MethodName := ⟨"ConicKinds", "middles", "()I"⟩
abbrev b_K_middle : ByteArray := prog_1_method_8_code
def y_K_middle : MethodName := ⟨"ConicKinds", "middle", "(II)J"⟩
abbrev b_K_isNoPart : ByteArray := prog_1_method_22_code
def y_K_isNoPart : MethodName := ⟨"ConicKinds", "isNoPart", "(I)Z"⟩
abbrev b_T_adjugate : ByteArray := prog_2_method_6_code
def y_T_adjugate : MethodName := ⟨"ConicKinds$Table", "adjugate", "(II)J"⟩
abbrev b_K_partOfFraction : ByteArray := prog_1_method_32_code
def y_K_partOfFraction : MethodName := ⟨"ConicKinds", "partOfFraction", "(JJI)J"⟩
abbrev b_K_greatestDivisor : ByteArray := prog_1_method_31_code
def y_K_greatestDivisor : MethodName := ⟨"ConicKinds", "greatestDivisor", "(JJ)J"⟩
abbrev b_K_below : ByteArray := prog_1_method_10_code
def y_K_below : MethodName := ⟨"ConicKinds", "below", "(II)I"⟩
abbrev b_K_unlike : ByteArray := prog_1_method_11_code
def y_K_unlike : MethodName := ⟨"ConicKinds", "unlike", "()I"⟩
abbrev b_T_countUnlike : ByteArray := prog_2_method_13_code
def y_T_countUnlike : MethodName := ⟨"ConicKinds$Table", "countUnlike", "()I"⟩
abbrev b_T_discriminant : ByteArray := prog_2_method_14_code
def y_T_discriminant : MethodName := ⟨"ConicKinds$Table", "discriminant", "(JJJ)J"⟩
abbrev b_K_at : ByteArray := prog_1_method_12_code
def y_K_at : MethodName := ⟨"ConicKinds", "at", "(IIII)I"⟩
abbrev b_K_takePoint : ByteArray := prog_1_method_28_code
def y_K_takePoint : MethodName := ⟨"ConicKinds", "takePoint", "(IIII)Z"⟩
abbrev b_K_setRow : ByteArray := prog_1_method_25_code
def y_K_setRow : MethodName := ⟨"ConicKinds", "setRow", "([JJJJJ)V"⟩
abbrev b_K_isRowBeyond : ByteArray := prog_1_method_26_code
def y_K_isRowBeyond : MethodName := ⟨"ConicKinds", "isRowBeyond", "([JI)Z"⟩
abbrev b_K_formOf : ByteArray := prog_1_method_30_code
def y_K_formOf : MethodName := ⟨"ConicKinds", "formOf", "([J[J)J"⟩
abbrev b_K_rowTimes : ByteArray := prog_1_method_29_code
def y_K_rowTimes : MethodName := ⟨"ConicKinds", "rowTimes", "(I[J)J"⟩
abbrev b_K_signCode : ByteArray := prog_1_method_24_code
def y_K_signCode : MethodName := ⟨"ConicKinds", "signCode", "(J)I"⟩
abbrev b_K_polar : ByteArray := prog_1_method_13_code
def y_K_polar : MethodName := ⟨"ConicKinds", "polar", "(IIIII)J"⟩
abbrev b_K_clearDivisor : ByteArray := prog_1_method_33_code
def y_K_clearDivisor : MethodName := ⟨"ConicKinds", "clearDivisor", "([JI)Z"⟩
abbrev b_K_touches : ByteArray := prog_1_method_14_code
def y_K_touches : MethodName := ⟨"ConicKinds", "touches", "(IIII)I"⟩
abbrev b_K_isAllZero : ByteArray := prog_1_method_27_code
def y_K_isAllZero : MethodName := ⟨"ConicKinds", "isAllZero", "([JII)Z"⟩
abbrev b_K_section : ByteArray := prog_1_method_15_code
def y_K_section : MethodName := ⟨"ConicKinds", "section", "(IIII)I"⟩
abbrev b_K_cutInto : ByteArray := prog_1_method_38_code
def y_K_cutInto : MethodName := ⟨"ConicKinds", "cutInto", "([JI)V"⟩
abbrev b_K_cutCell : ByteArray := prog_1_method_39_code
def y_K_cutCell : MethodName := ⟨"ConicKinds", "cutCell", "(III)J"⟩
abbrev b_K_meets : ByteArray := prog_1_method_16_code
def y_K_meets : MethodName := ⟨"ConicKinds", "meets", "(IIIIII)I"⟩
abbrev b_K_line : ByteArray := prog_1_method_17_code
def y_K_line : MethodName := ⟨"ConicKinds", "line", "(II)J"⟩
abbrev b_K_takeLines : ByteArray := prog_1_method_40_code
def y_K_takeLines : MethodName := ⟨"ConicKinds", "takeLines", "(I)I"⟩
abbrev b_K_takeFormRow : ByteArray := prog_1_method_41_code
def y_K_takeFormRow : MethodName := ⟨"ConicKinds", "takeFormRow", "(I)V"⟩
abbrev b_K_joinLines : ByteArray := prog_1_method_42_code
def y_K_joinLines : MethodName := ⟨"ConicKinds", "joinLines", "()Z"⟩
abbrev b_K_rootOf : ByteArray := prog_1_method_43_code
def y_K_rootOf : MethodName := ⟨"ConicKinds", "rootOf", "(J)I"⟩
abbrev b_K_addCrosswise : ByteArray := prog_1_method_44_code
def y_K_addCrosswise : MethodName := ⟨"ConicKinds", "addCrosswise", "(JJJ)V"⟩
abbrev b_K_readLines : ByteArray := prog_1_method_45_code
def y_K_readLines : MethodName := ⟨"ConicKinds", "readLines", "()Z"⟩
abbrev b_K_readLinesAt : ByteArray := prog_1_method_46_code
def y_K_readLinesAt : MethodName := ⟨"ConicKinds", "readLinesAt", "(II)Z"⟩
abbrev b_K_isLess : ByteArray := prog_1_method_47_code
def y_K_isLess : MethodName := ⟨"ConicKinds", "isLess", "([J[J)Z"⟩
abbrev b_K_keep : ByteArray := prog_1_method_18_code
def y_K_keep : MethodName := ⟨"ConicKinds", "keep", "()I"⟩
abbrev b_K_alike : ByteArray := prog_1_method_19_code
def y_K_alike : MethodName := ⟨"ConicKinds", "alike", "()I"⟩
abbrev b_L_height : ByteArray := method_3_code
def y_L_height : MethodName := ⟨"ConicKindsLaw", "height", "(LConicKinds;I[J)I"⟩
abbrev b_K_height : ByteArray := prog_1_method_9_code
def y_K_height : MethodName := ⟨"ConicKinds", "height", "(I)J"⟩
abbrev b_M_init : ByteArray := prog_4_method_1_code
def y_M_init : MethodName := ⟨"ConicKindsModel", "<init>", "()V"⟩
abbrev b_M_thrown : ByteArray := prog_4_method_2_code
def y_M_thrown : MethodName := ⟨"ConicKindsModel", "thrown", "()I"⟩
abbrev b_M_dimension : ByteArray := prog_4_method_4_code
def y_M_dimension : MethodName := ⟨"ConicKindsModel", "dimension", "(I)I"⟩
abbrev b_M_put : ByteArray := prog_4_method_5_code
def y_M_put : MethodName := ⟨"ConicKindsModel", "put", "(III)J"⟩
abbrev b_M_in : ByteArray := prog_4_method_3_code
def y_M_in : MethodName := ⟨"ConicKindsModel", "in", "(JII)Z"⟩
abbrev b_M_kind : ByteArray := prog_4_method_16_code
def y_M_kind : MethodName := ⟨"ConicKindsModel", "kind", "()I"⟩
abbrev b_M_ownKind : ByteArray := prog_4_method_15_code
def y_M_ownKind : MethodName := ⟨"ConicKindsModel", "ownKind", "()I"⟩
abbrev b_M_findAll : ByteArray := prog_4_method_14_code
def y_M_findAll : MethodName := ⟨"ConicKindsModel", "findAll", "()V"⟩
abbrev b_M_take : ByteArray := prog_4_method_6_code
def y_M_take : MethodName := ⟨"ConicKindsModel", "take", "(Z)V"⟩
abbrev b_M_findSigns : ByteArray := prog_4_method_12_code
def y_M_findSigns : MethodName := ⟨"ConicKindsModel", "findSigns", "()V"⟩
abbrev b_M_sums : ByteArray := prog_4_method_11_code
def y_M_sums : MethodName := ⟨"ConicKindsModel", "sums", "(I)J"⟩
abbrev b_M_bitsOf : ByteArray := prog_4_method_10_code
def y_M_bitsOf : MethodName := ⟨"ConicKindsModel", "bitsOf", "(I)I"⟩
abbrev b_M_minor : ByteArray := prog_4_method_7_code
def y_M_minor : MethodName := ⟨"ConicKindsModel", "minor", "(I)J"⟩
abbrev b_M_determinantOf : ByteArray := prog_4_method_8_code
def y_M_determinantOf : MethodName := ⟨"ConicKindsModel", "determinantOf", "(I)J"⟩
abbrev b_M_swapRows : ByteArray := prog_4_method_9_code
def y_M_swapRows : MethodName := ⟨"ConicKindsModel", "swapRows", "(II)V"⟩
abbrev b_M_kindOf : ByteArray := prog_4_method_13_code
def y_M_kindOf : MethodName := ⟨"ConicKindsModel", "kindOf", "(Z)I"⟩
abbrev b_M_signs : ByteArray := prog_4_method_17_code
def y_M_signs : MethodName := ⟨"ConicKindsModel", "signs", "(I)I"⟩
abbrev b_M_determinant : ByteArray := prog_4_method_18_code
def y_M_determinant : MethodName := ⟨"ConicKindsModel", "determinant", "(I)J"⟩
abbrev b_M_middles : ByteArray := prog_4_method_20_code
def y_M_middles : MethodName := ⟨"ConicKindsModel", "middles", "()I"⟩
abbrev b_M_rank : ByteArray := prog_4_method_19_code
def y_M_rank : MethodName := ⟨"ConicKindsModel", "rank", "(Z)I"⟩
abbrev b_M_middle : ByteArray := prog_4_method_23_code
def y_M_middle : MethodName := ⟨"ConicKindsModel", "middle", "(II)J"⟩
abbrev b_M_part : ByteArray := prog_4_method_22_code
def y_M_part : MethodName := ⟨"ConicKindsModel", "part", "(JJI)J"⟩
abbrev b_M_divisor : ByteArray := prog_4_method_21_code
def y_M_divisor : MethodName := ⟨"ConicKindsModel", "divisor", "(JJ)J"⟩
abbrev b_M_height : ByteArray := prog_4_method_24_code
def y_M_height : MethodName := ⟨"ConicKindsModel", "height", "(I)J"⟩
abbrev b_M_below : ByteArray := prog_4_method_25_code
def y_M_below : MethodName := ⟨"ConicKindsModel", "below", "(II)I"⟩
abbrev b_M_unlike : ByteArray := prog_4_method_26_code
def y_M_unlike : MethodName := ⟨"ConicKindsModel", "unlike", "()I"⟩
abbrev b_M_at : ByteArray := prog_4_method_29_code
def y_M_at : MethodName := ⟨"ConicKindsModel", "at", "(IIII)I"⟩
abbrev b_M_isPoint : ByteArray := prog_4_method_27_code
def y_M_isPoint : MethodName := ⟨"ConicKindsModel", "isPoint", "(IIII)Z"⟩
abbrev b_M_polarAt : ByteArray := prog_4_method_28_code
def y_M_polarAt : MethodName := ⟨"ConicKindsModel", "polarAt", "(I)J"⟩
abbrev b_M_polar : ByteArray := prog_4_method_31_code
def y_M_polar : MethodName := ⟨"ConicKindsModel", "polar", "(IIIII)J"⟩
abbrev b_M_without : ByteArray := prog_4_method_30_code
def y_M_without : MethodName := ⟨"ConicKindsModel", "without", "(II)J"⟩
abbrev b_M_touches : ByteArray := prog_4_method_32_code
def y_M_touches : MethodName := ⟨"ConicKindsModel", "touches", "(IIII)I"⟩
abbrev b_M_section : ByteArray := prog_4_method_35_code
def y_M_section : MethodName := ⟨"ConicKindsModel", "section", "(IIII)I"⟩
abbrev b_M_layBase : ByteArray := prog_4_method_34_code
def y_M_layBase : MethodName := ⟨"ConicKindsModel", "layBase", "(IIII)V"⟩
abbrev b_M_layCut : ByteArray := prog_4_method_36_code
def y_M_layCut : MethodName := ⟨"ConicKindsModel", "layCut", "(I)V"⟩
abbrev b_M_formOf : ByteArray := prog_4_method_33_code
def y_M_formOf : MethodName := ⟨"ConicKindsModel", "formOf", "(II)J"⟩
abbrev b_M_meets : ByteArray := prog_4_method_37_code
def y_M_meets : MethodName := ⟨"ConicKindsModel", "meets", "(IIIIII)I"⟩
abbrev b_M_line : ByteArray := prog_4_method_43_code
def y_M_line : MethodName := ⟨"ConicKindsModel", "line", "(II)J"⟩
abbrev b_M_findLines : ByteArray := prog_4_method_41_code
def y_M_findLines : MethodName := ⟨"ConicKindsModel", "findLines", "(I)V"⟩
abbrev b_M_setLine : ByteArray := prog_4_method_39_code
def y_M_setLine : MethodName := ⟨"ConicKindsModel", "setLine", "(IJJJ)V"⟩
abbrev b_M_findTwo : ByteArray := prog_4_method_40_code
def y_M_findTwo : MethodName := ⟨"ConicKindsModel", "findTwo", "(Z)V"⟩
abbrev b_M_root : ByteArray := prog_4_method_38_code
def y_M_root : MethodName := ⟨"ConicKindsModel", "root", "(J)J"⟩
abbrev b_M_isSecondFirst : ByteArray := prog_4_method_42_code
def y_M_isSecondFirst : MethodName := ⟨"ConicKindsModel", "isSecondFirst", "()Z"⟩
abbrev b_M_keep : ByteArray := prog_4_method_44_code
def y_M_keep : MethodName := ⟨"ConicKindsModel", "keep", "()I"⟩
abbrev b_M_alike : ByteArray := prog_4_method_45_code
def y_M_alike : MethodName := ⟨"ConicKindsModel", "alike", "()I"⟩
theorem hd_K_init : y_K_init.cls ≠ "java/lang/invoke/MethodHandle" ∧ y_K_init.cls ≠ "java/lang/invoke/VarHandle" ∧ (parseMethodDescriptor y_K_init.desc).map (fun d => d.parameters.length) = some 0 := by decide +kernel
theorem hd_T_init : y_T_init.cls ≠ "java/lang/invoke/MethodHandle" ∧ y_T_init.cls ≠ "java/lang/invoke/VarHandle" ∧ (parseMethodDescriptor y_T_init.desc).map (fun d => d.parameters.length) = some 0 := by decide +kernel
theorem hd_K_dimension : y_K_dimension.cls ≠ "java/lang/invoke/MethodHandle" ∧ y_K_dimension.cls ≠ "java/lang/invoke/VarHandle" ∧ (parseMethodDescriptor y_K_dimension.desc).map (fun d => d.parameters.length) = some 1 := by decide +kernel
theorem hd_A_fill : y_A_fill.cls ≠ "java/lang/invoke/MethodHandle" ∧ y_A_fill.cls ≠ "java/lang/invoke/VarHandle" ∧ (parseMethodDescriptor y_A_fill.desc).map (fun d => d.parameters.length) = some 2 := by decide +kernel
theorem hd_K_put : y_K_put.cls ≠ "java/lang/invoke/MethodHandle" ∧ y_K_put.cls ≠ "java/lang/invoke/VarHandle" ∧ (parseMethodDescriptor y_K_put.desc).map (fun d => d.parameters.length) = some 3 := by decide +kernel
theorem hd_K_isNoPlace : y_K_isNoPlace.cls ≠ "java/lang/invoke/MethodHandle" ∧ y_K_isNoPlace.cls ≠ "java/lang/invoke/VarHandle" ∧ (parseMethodDescriptor y_K_isNoPlace.desc).map (fun d => d.parameters.length) = some 1 := by decide +kernel
theorem hd_K_isBeyond : y_K_isBeyond.cls ≠ "java/lang/invoke/MethodHandle" ∧ y_K_isBeyond.cls ≠ "java/lang/invoke/VarHandle" ∧ (parseMethodDescriptor y_K_isBeyond.desc).map (fun d => d.parameters.length) = some 2 := by decide +kernel
theorem hd_K_place : y_K_place.cls ≠ "java/lang/invoke/MethodHandle" ∧ y_K_place.cls ≠ "java/lang/invoke/VarHandle" ∧ (parseMethodDescriptor y_K_place.desc).map (fun d => d.parameters.length) = some 2 := by decide +kernel
theorem hd_K_kind : y_K_kind.cls ≠ "java/lang/invoke/MethodHandle" ∧ y_K_kind.cls ≠ "java/lang/invoke/VarHandle" ∧ (parseMethodDescriptor y_K_kind.desc).map (fun d => d.parameters.length) = some 0 := by decide +kernel
theorem hd_K_kindOf : y_K_kindOf.cls ≠ "java/lang/invoke/MethodHandle" ∧ y_K_kindOf.cls ≠ "java/lang/invoke/VarHandle" ∧ (parseMethodDescriptor y_K_kindOf.desc).map (fun d => d.parameters.length) = some 2 := by decide +kernel
theorem hd_T_load : y_T_load.cls ≠ "java/lang/invoke/MethodHandle" ∧ y_T_load.cls ≠ "java/lang/invoke/VarHandle" ∧ (parseMethodDescriptor y_T_load.desc).map (fun d => d.parameters.length) = some 3 := by decide +kernel
theorem hd_T_expand : y_T_expand.cls ≠ "java/lang/invoke/MethodHandle" ∧ y_T_expand.cls ≠ "java/lang/invoke/VarHandle" ∧ (parseMethodDescriptor y_T_expand.desc).map (fun d => d.parameters.length) = some 0 := by decide +kernel
theorem hd_T_multiply : y_T_multiply.cls ≠ "java/lang/invoke/MethodHandle" ∧ y_T_multiply.cls ≠ "java/lang/invoke/VarHandle" ∧ (parseMethodDescriptor y_T_multiply.desc).map (fun d => d.parameters.length) = some 0 := by decide +kernel
theorem hd_T_diagonal : y_T_diagonal.cls ≠ "java/lang/invoke/MethodHandle" ∧ y_T_diagonal.cls ≠ "java/lang/invoke/VarHandle" ∧ (parseMethodDescriptor y_T_diagonal.desc).map (fun d => d.parameters.length) = some 0 := by decide +kernel
theorem hd_T_countAbove : y_T_countAbove.cls ≠ "java/lang/invoke/MethodHandle" ∧ y_T_countAbove.cls ≠ "java/lang/invoke/VarHandle" ∧ (parseMethodDescriptor y_T_countAbove.desc).map (fun d => d.parameters.length) = some 0 := by decide +kernel
theorem hd_T_countBelow : y_T_countBelow.cls ≠ "java/lang/invoke/MethodHandle" ∧ y_T_countBelow.cls ≠ "java/lang/invoke/VarHandle" ∧ (parseMethodDescriptor y_T_countBelow.desc).map (fun d => d.parameters.length) = some 0 := by decide +kernel
theorem hd_T_rank : y_T_rank.cls ≠ "java/lang/invoke/MethodHandle" ∧ y_T_rank.cls ≠ "java/lang/invoke/VarHandle" ∧ (parseMethodDescriptor y_T_rank.desc).map (fun d => d.parameters.length) = some 0 := by decide +kernel
theorem hd_K_codeOf : y_K_codeOf.cls ≠ "java/lang/invoke/MethodHandle" ∧ y_K_codeOf.cls ≠ "java/lang/invoke/VarHandle" ∧ (parseMethodDescriptor y_K_codeOf.desc).map (fun d => d.parameters.length) = some 4 := by decide +kernel
theorem hd_K_kindInPlane : y_K_kindInPlane.cls ≠ "java/lang/invoke/MethodHandle" ∧ y_K_kindInPlane.cls ≠ "java/lang/invoke/VarHandle" ∧ (parseMethodDescriptor y_K_kindInPlane.desc).map (fun d => d.parameters.length) = some 1 := by decide +kernel
theorem hd_K_kindInSpace : y_K_kindInSpace.cls ≠ "java/lang/invoke/MethodHandle" ∧ y_K_kindInSpace.cls ≠ "java/lang/invoke/VarHandle" ∧ (parseMethodDescriptor y_K_kindInSpace.desc).map (fun d => d.parameters.length) = some 1 := by decide +kernel
theorem hd_K_signs : y_K_signs.cls ≠ "java/lang/invoke/MethodHandle" ∧ y_K_signs.cls ≠ "java/lang/invoke/VarHandle" ∧ (parseMethodDescriptor y_K_signs.desc).map (fun d => d.parameters.length) = some 1 := by decide +kernel
theorem hd_K_determinant : y_K_determinant.cls ≠ "java/lang/invoke/MethodHandle" ∧ y_K_determinant.cls ≠ "java/lang/invoke/VarHandle" ∧ (parseMethodDescriptor y_K_determinant.desc).map (fun d => d.parameters.length) = some 1 := by decide +kernel
theorem hd_T_sumOfValues : y_T_sumOfValues.cls ≠ "java/lang/invoke/MethodHandle" ∧ y_T_sumOfValues.cls ≠ "java/lang/invoke/VarHandle" ∧ (parseMethodDescriptor y_T_sumOfValues.desc).map (fun d => d.parameters.length) = some 0 := by decide +kernel
theorem hd_T_sumOfPairs : y_T_sumOfPairs.cls ≠ "java/lang/invoke/MethodHandle" ∧ y_T_sumOfPairs.cls ≠ "java/lang/invoke/VarHandle" ∧ (parseMethodDescriptor y_T_sumOfPairs.desc).map (fun d => d.parameters.length) = some 0 := by decide +kernel
theorem hd_T_productOfValues : y_T_productOfValues.cls ≠ "java/lang/invoke/MethodHandle" ∧ y_T_productOfValues.cls ≠ "java/lang/invoke/VarHandle" ∧ (parseMethodDescriptor y_T_productOfValues.desc).map (fun d => d.parameters.length) = some 0 := by decide +kernel
theorem hd_K_middles : y_K_middles.cls ≠ "java/lang/invoke/MethodHandle" ∧ y_K_middles.cls ≠ "java/lang/invoke/VarHandle" ∧ (parseMethodDescriptor y_K_middles.desc).map (fun d => d.parameters.length) = some 0 := by decide +kernel
theorem hd_K_middle : y_K_middle.cls ≠ "java/lang/invoke/MethodHandle" ∧ y_K_middle.cls ≠ "java/lang/invoke/VarHandle" ∧ (parseMethodDescriptor y_K_middle.desc).map (fun d => d.parameters.length) = some 2 := by decide +kernel
theorem hd_K_isNoPart : y_K_isNoPart.cls ≠ "java/lang/invoke/MethodHandle" ∧ y_K_isNoPart.cls ≠ "java/lang/invoke/VarHandle" ∧ (parseMethodDescriptor y_K_isNoPart.desc).map (fun d => d.parameters.length) = some 1 := by decide +kernel
theorem hd_T_adjugate : y_T_adjugate.cls ≠ "java/lang/invoke/MethodHandle" ∧ y_T_adjugate.cls ≠ "java/lang/invoke/VarHandle" ∧ (parseMethodDescriptor y_T_adjugate.desc).map (fun d => d.parameters.length) = some 2 := by decide +kernel
theorem hd_K_partOfFraction : y_K_partOfFraction.cls ≠ "java/lang/invoke/MethodHandle" ∧ y_K_partOfFraction.cls ≠ "java/lang/invoke/VarHandle" ∧ (parseMethodDescriptor y_K_partOfFraction.desc).map (fun d => d.parameters.length) = some 3 := by decide +kernel
theorem hd_K_greatestDivisor : y_K_greatestDivisor.cls ≠ "java/lang/invoke/MethodHandle" ∧ y_K_greatestDivisor.cls ≠ "java/lang/invoke/VarHandle" ∧ (parseMethodDescriptor y_K_greatestDivisor.desc).map (fun d => d.parameters.length) = some 2 := by decide +kernel
theorem hd_K_below : y_K_below.cls ≠ "java/lang/invoke/MethodHandle" ∧ y_K_below.cls ≠ "java/lang/invoke/VarHandle" ∧ (parseMethodDescriptor y_K_below.desc).map (fun d => d.parameters.length) = some 2 := by decide +kernel
theorem hd_K_unlike : y_K_unlike.cls ≠ "java/lang/invoke/MethodHandle" ∧ y_K_unlike.cls ≠ "java/lang/invoke/VarHandle" ∧ (parseMethodDescriptor y_K_unlike.desc).map (fun d => d.parameters.length) = some 0 := by decide +kernel
theorem hd_T_countUnlike : y_T_countUnlike.cls ≠ "java/lang/invoke/MethodHandle" ∧ y_T_countUnlike.cls ≠ "java/lang/invoke/VarHandle" ∧ (parseMethodDescriptor y_T_countUnlike.desc).map (fun d => d.parameters.length) = some 0 := by decide +kernel
theorem hd_T_discriminant : y_T_discriminant.cls ≠ "java/lang/invoke/MethodHandle" ∧ y_T_discriminant.cls ≠ "java/lang/invoke/VarHandle" ∧ (parseMethodDescriptor y_T_discriminant.desc).map (fun d => d.parameters.length) = some 3 := by decide +kernel
theorem hd_K_at : y_K_at.cls ≠ "java/lang/invoke/MethodHandle" ∧ y_K_at.cls ≠ "java/lang/invoke/VarHandle" ∧ (parseMethodDescriptor y_K_at.desc).map (fun d => d.parameters.length) = some 4 := by decide +kernel
theorem hd_K_takePoint : y_K_takePoint.cls ≠ "java/lang/invoke/MethodHandle" ∧ y_K_takePoint.cls ≠ "java/lang/invoke/VarHandle" ∧ (parseMethodDescriptor y_K_takePoint.desc).map (fun d => d.parameters.length) = some 4 := by decide +kernel
theorem hd_K_setRow : y_K_setRow.cls ≠ "java/lang/invoke/MethodHandle" ∧ y_K_setRow.cls ≠ "java/lang/invoke/VarHandle" ∧ (parseMethodDescriptor y_K_setRow.desc).map (fun d => d.parameters.length) = some 5 := by decide +kernel
theorem hd_K_isRowBeyond : y_K_isRowBeyond.cls ≠ "java/lang/invoke/MethodHandle" ∧ y_K_isRowBeyond.cls ≠ "java/lang/invoke/VarHandle" ∧ (parseMethodDescriptor y_K_isRowBeyond.desc).map (fun d => d.parameters.length) = some 2 := by decide +kernel
theorem hd_K_formOf : y_K_formOf.cls ≠ "java/lang/invoke/MethodHandle" ∧ y_K_formOf.cls ≠ "java/lang/invoke/VarHandle" ∧ (parseMethodDescriptor y_K_formOf.desc).map (fun d => d.parameters.length) = some 2 := by decide +kernel
theorem hd_K_rowTimes : y_K_rowTimes.cls ≠ "java/lang/invoke/MethodHandle" ∧ y_K_rowTimes.cls ≠ "java/lang/invoke/VarHandle" ∧ (parseMethodDescriptor y_K_rowTimes.desc).map (fun d => d.parameters.length) = some 2 := by decide +kernel
theorem hd_K_signCode : y_K_signCode.cls ≠ "java/lang/invoke/MethodHandle" ∧ y_K_signCode.cls ≠ "java/lang/invoke/VarHandle" ∧ (parseMethodDescriptor y_K_signCode.desc).map (fun d => d.parameters.length) = some 1 := by decide +kernel
theorem hd_K_polar : y_K_polar.cls ≠ "java/lang/invoke/MethodHandle" ∧ y_K_polar.cls ≠ "java/lang/invoke/VarHandle" ∧ (parseMethodDescriptor y_K_polar.desc).map (fun d => d.parameters.length) = some 5 := by decide +kernel
theorem hd_K_clearDivisor : y_K_clearDivisor.cls ≠ "java/lang/invoke/MethodHandle" ∧ y_K_clearDivisor.cls ≠ "java/lang/invoke/VarHandle" ∧ (parseMethodDescriptor y_K_clearDivisor.desc).map (fun d => d.parameters.length) = some 2 := by decide +kernel
theorem hd_K_touches : y_K_touches.cls ≠ "java/lang/invoke/MethodHandle" ∧ y_K_touches.cls ≠ "java/lang/invoke/VarHandle" ∧ (parseMethodDescriptor y_K_touches.desc).map (fun d => d.parameters.length) = some 4 := by decide +kernel
theorem hd_K_isAllZero : y_K_isAllZero.cls ≠ "java/lang/invoke/MethodHandle" ∧ y_K_isAllZero.cls ≠ "java/lang/invoke/VarHandle" ∧ (parseMethodDescriptor y_K_isAllZero.desc).map (fun d => d.parameters.length) = some 3 := by decide +kernel
theorem hd_K_section : y_K_section.cls ≠ "java/lang/invoke/MethodHandle" ∧ y_K_section.cls ≠ "java/lang/invoke/VarHandle" ∧ (parseMethodDescriptor y_K_section.desc).map (fun d => d.parameters.length) = some 4 := by decide +kernel
theorem hd_K_cutInto : y_K_cutInto.cls ≠ "java/lang/invoke/MethodHandle" ∧ y_K_cutInto.cls ≠ "java/lang/invoke/VarHandle" ∧ (parseMethodDescriptor y_K_cutInto.desc).map (fun d => d.parameters.length) = some 2 := by decide +kernel
theorem hd_K_cutCell : y_K_cutCell.cls ≠ "java/lang/invoke/MethodHandle" ∧ y_K_cutCell.cls ≠ "java/lang/invoke/VarHandle" ∧ (parseMethodDescriptor y_K_cutCell.desc).map (fun d => d.parameters.length) = some 3 := by decide +kernel
theorem hd_K_meets : y_K_meets.cls ≠ "java/lang/invoke/MethodHandle" ∧ y_K_meets.cls ≠ "java/lang/invoke/VarHandle" ∧ (parseMethodDescriptor y_K_meets.desc).map (fun d => d.parameters.length) = some 6 := by decide +kernel
theorem hd_K_line : y_K_line.cls ≠ "java/lang/invoke/MethodHandle" ∧ y_K_line.cls ≠ "java/lang/invoke/VarHandle" ∧ (parseMethodDescriptor y_K_line.desc).map (fun d => d.parameters.length) = some 2 := by decide +kernel
theorem hd_K_takeLines : y_K_takeLines.cls ≠ "java/lang/invoke/MethodHandle" ∧ y_K_takeLines.cls ≠ "java/lang/invoke/VarHandle" ∧ (parseMethodDescriptor y_K_takeLines.desc).map (fun d => d.parameters.length) = some 1 := by decide +kernel
theorem hd_K_takeFormRow : y_K_takeFormRow.cls ≠ "java/lang/invoke/MethodHandle" ∧ y_K_takeFormRow.cls ≠ "java/lang/invoke/VarHandle" ∧ (parseMethodDescriptor y_K_takeFormRow.desc).map (fun d => d.parameters.length) = some 1 := by decide +kernel
theorem hd_K_joinLines : y_K_joinLines.cls ≠ "java/lang/invoke/MethodHandle" ∧ y_K_joinLines.cls ≠ "java/lang/invoke/VarHandle" ∧ (parseMethodDescriptor y_K_joinLines.desc).map (fun d => d.parameters.length) = some 0 := by decide +kernel
theorem hd_K_rootOf : y_K_rootOf.cls ≠ "java/lang/invoke/MethodHandle" ∧ y_K_rootOf.cls ≠ "java/lang/invoke/VarHandle" ∧ (parseMethodDescriptor y_K_rootOf.desc).map (fun d => d.parameters.length) = some 1 := by decide +kernel
theorem hd_K_addCrosswise : y_K_addCrosswise.cls ≠ "java/lang/invoke/MethodHandle" ∧ y_K_addCrosswise.cls ≠ "java/lang/invoke/VarHandle" ∧ (parseMethodDescriptor y_K_addCrosswise.desc).map (fun d => d.parameters.length) = some 3 := by decide +kernel
theorem hd_K_readLines : y_K_readLines.cls ≠ "java/lang/invoke/MethodHandle" ∧ y_K_readLines.cls ≠ "java/lang/invoke/VarHandle" ∧ (parseMethodDescriptor y_K_readLines.desc).map (fun d => d.parameters.length) = some 0 := by decide +kernel
theorem hd_K_readLinesAt : y_K_readLinesAt.cls ≠ "java/lang/invoke/MethodHandle" ∧ y_K_readLinesAt.cls ≠ "java/lang/invoke/VarHandle" ∧ (parseMethodDescriptor y_K_readLinesAt.desc).map (fun d => d.parameters.length) = some 2 := by decide +kernel
theorem hd_K_isLess : y_K_isLess.cls ≠ "java/lang/invoke/MethodHandle" ∧ y_K_isLess.cls ≠ "java/lang/invoke/VarHandle" ∧ (parseMethodDescriptor y_K_isLess.desc).map (fun d => d.parameters.length) = some 2 := by decide +kernel
theorem hd_K_keep : y_K_keep.cls ≠ "java/lang/invoke/MethodHandle" ∧ y_K_keep.cls ≠ "java/lang/invoke/VarHandle" ∧ (parseMethodDescriptor y_K_keep.desc).map (fun d => d.parameters.length) = some 0 := by decide +kernel
theorem hd_K_alike : y_K_alike.cls ≠ "java/lang/invoke/MethodHandle" ∧ y_K_alike.cls ≠ "java/lang/invoke/VarHandle" ∧ (parseMethodDescriptor y_K_alike.desc).map (fun d => d.parameters.length) = some 0 := by decide +kernel
theorem hd_L_height : y_L_height.cls ≠ "java/lang/invoke/MethodHandle" ∧ y_L_height.cls ≠ "java/lang/invoke/VarHandle" ∧ (parseMethodDescriptor y_L_height.desc).map (fun d => d.parameters.length) = some 3 := by decide +kernel
theorem hd_K_height : y_K_height.cls ≠ "java/lang/invoke/MethodHandle" ∧ y_K_height.cls ≠ "java/lang/invoke/VarHandle" ∧ (parseMethodDescriptor y_K_height.desc).map (fun d => d.parameters.length) = some 1 := by decide +kernel
theorem hd_M_init : y_M_init.cls ≠ "java/lang/invoke/MethodHandle" ∧ y_M_init.cls ≠ "java/lang/invoke/VarHandle" ∧ (parseMethodDescriptor y_M_init.desc).map (fun d => d.parameters.length) = some 0 := by decide +kernel
theorem hd_M_thrown : y_M_thrown.cls ≠ "java/lang/invoke/MethodHandle" ∧ y_M_thrown.cls ≠ "java/lang/invoke/VarHandle" ∧ (parseMethodDescriptor y_M_thrown.desc).map (fun d => d.parameters.length) = some 0 := by decide +kernel
theorem hd_M_dimension : y_M_dimension.cls ≠ "java/lang/invoke/MethodHandle" ∧ y_M_dimension.cls ≠ "java/lang/invoke/VarHandle" ∧ (parseMethodDescriptor y_M_dimension.desc).map (fun d => d.parameters.length) = some 1 := by decide +kernel
theorem hd_M_put : y_M_put.cls ≠ "java/lang/invoke/MethodHandle" ∧ y_M_put.cls ≠ "java/lang/invoke/VarHandle" ∧ (parseMethodDescriptor y_M_put.desc).map (fun d => d.parameters.length) = some 3 := by decide +kernel
theorem hd_M_in : y_M_in.cls ≠ "java/lang/invoke/MethodHandle" ∧ y_M_in.cls ≠ "java/lang/invoke/VarHandle" ∧ (parseMethodDescriptor y_M_in.desc).map (fun d => d.parameters.length) = some 3 := by decide +kernel
theorem hd_M_kind : y_M_kind.cls ≠ "java/lang/invoke/MethodHandle" ∧ y_M_kind.cls ≠ "java/lang/invoke/VarHandle" ∧ (parseMethodDescriptor y_M_kind.desc).map (fun d => d.parameters.length) = some 0 := by decide +kernel
theorem hd_M_ownKind : y_M_ownKind.cls ≠ "java/lang/invoke/MethodHandle" ∧ y_M_ownKind.cls ≠ "java/lang/invoke/VarHandle" ∧ (parseMethodDescriptor y_M_ownKind.desc).map (fun d => d.parameters.length) = some 0 := by decide +kernel
theorem hd_M_findAll : y_M_findAll.cls ≠ "java/lang/invoke/MethodHandle" ∧ y_M_findAll.cls ≠ "java/lang/invoke/VarHandle" ∧ (parseMethodDescriptor y_M_findAll.desc).map (fun d => d.parameters.length) = some 0 := by decide +kernel
theorem hd_M_take : y_M_take.cls ≠ "java/lang/invoke/MethodHandle" ∧ y_M_take.cls ≠ "java/lang/invoke/VarHandle" ∧ (parseMethodDescriptor y_M_take.desc).map (fun d => d.parameters.length) = some 1 := by decide +kernel
theorem hd_M_findSigns : y_M_findSigns.cls ≠ "java/lang/invoke/MethodHandle" ∧ y_M_findSigns.cls ≠ "java/lang/invoke/VarHandle" ∧ (parseMethodDescriptor y_M_findSigns.desc).map (fun d => d.parameters.length) = some 0 := by decide +kernel
theorem hd_M_sums : y_M_sums.cls ≠ "java/lang/invoke/MethodHandle" ∧ y_M_sums.cls ≠ "java/lang/invoke/VarHandle" ∧ (parseMethodDescriptor y_M_sums.desc).map (fun d => d.parameters.length) = some 1 := by decide +kernel
theorem hd_M_bitsOf : y_M_bitsOf.cls ≠ "java/lang/invoke/MethodHandle" ∧ y_M_bitsOf.cls ≠ "java/lang/invoke/VarHandle" ∧ (parseMethodDescriptor y_M_bitsOf.desc).map (fun d => d.parameters.length) = some 1 := by decide +kernel
theorem hd_M_minor : y_M_minor.cls ≠ "java/lang/invoke/MethodHandle" ∧ y_M_minor.cls ≠ "java/lang/invoke/VarHandle" ∧ (parseMethodDescriptor y_M_minor.desc).map (fun d => d.parameters.length) = some 1 := by decide +kernel
theorem hd_M_determinantOf : y_M_determinantOf.cls ≠ "java/lang/invoke/MethodHandle" ∧ y_M_determinantOf.cls ≠ "java/lang/invoke/VarHandle" ∧ (parseMethodDescriptor y_M_determinantOf.desc).map (fun d => d.parameters.length) = some 1 := by decide +kernel
theorem hd_M_swapRows : y_M_swapRows.cls ≠ "java/lang/invoke/MethodHandle" ∧ y_M_swapRows.cls ≠ "java/lang/invoke/VarHandle" ∧ (parseMethodDescriptor y_M_swapRows.desc).map (fun d => d.parameters.length) = some 2 := by decide +kernel
theorem hd_M_kindOf : y_M_kindOf.cls ≠ "java/lang/invoke/MethodHandle" ∧ y_M_kindOf.cls ≠ "java/lang/invoke/VarHandle" ∧ (parseMethodDescriptor y_M_kindOf.desc).map (fun d => d.parameters.length) = some 1 := by decide +kernel
theorem hd_M_signs : y_M_signs.cls ≠ "java/lang/invoke/MethodHandle" ∧ y_M_signs.cls ≠ "java/lang/invoke/VarHandle" ∧ (parseMethodDescriptor y_M_signs.desc).map (fun d => d.parameters.length) = some 1 := by decide +kernel
theorem hd_M_determinant : y_M_determinant.cls ≠ "java/lang/invoke/MethodHandle" ∧ y_M_determinant.cls ≠ "java/lang/invoke/VarHandle" ∧ (parseMethodDescriptor y_M_determinant.desc).map (fun d => d.parameters.length) = some 1 := by decide +kernel
theorem hd_M_middles : y_M_middles.cls ≠ "java/lang/invoke/MethodHandle" ∧ y_M_middles.cls ≠ "java/lang/invoke/VarHandle" ∧ (parseMethodDescriptor y_M_middles.desc).map (fun d => d.parameters.length) = some 0 := by decide +kernel
theorem hd_M_rank : y_M_rank.cls ≠ "java/lang/invoke/MethodHandle" ∧ y_M_rank.cls ≠ "java/lang/invoke/VarHandle" ∧ (parseMethodDescriptor y_M_rank.desc).map (fun d => d.parameters.length) = some 1 := by decide +kernel
theorem hd_M_middle : y_M_middle.cls ≠ "java/lang/invoke/MethodHandle" ∧ y_M_middle.cls ≠ "java/lang/invoke/VarHandle" ∧ (parseMethodDescriptor y_M_middle.desc).map (fun d => d.parameters.length) = some 2 := by decide +kernel
theorem hd_M_part : y_M_part.cls ≠ "java/lang/invoke/MethodHandle" ∧ y_M_part.cls ≠ "java/lang/invoke/VarHandle" ∧ (parseMethodDescriptor y_M_part.desc).map (fun d => d.parameters.length) = some 3 := by decide +kernel
theorem hd_M_divisor : y_M_divisor.cls ≠ "java/lang/invoke/MethodHandle" ∧ y_M_divisor.cls ≠ "java/lang/invoke/VarHandle" ∧ (parseMethodDescriptor y_M_divisor.desc).map (fun d => d.parameters.length) = some 2 := by decide +kernel
theorem hd_M_height : y_M_height.cls ≠ "java/lang/invoke/MethodHandle" ∧ y_M_height.cls ≠ "java/lang/invoke/VarHandle" ∧ (parseMethodDescriptor y_M_height.desc).map (fun d => d.parameters.length) = some 1 := by decide +kernel
theorem hd_M_below : y_M_below.cls ≠ "java/lang/invoke/MethodHandle" ∧ y_M_below.cls ≠ "java/lang/invoke/VarHandle" ∧ (parseMethodDescriptor y_M_below.desc).map (fun d => d.parameters.length) = some 2 := by decide +kernel
theorem hd_M_unlike : y_M_unlike.cls ≠ "java/lang/invoke/MethodHandle" ∧ y_M_unlike.cls ≠ "java/lang/invoke/VarHandle" ∧ (parseMethodDescriptor y_M_unlike.desc).map (fun d => d.parameters.length) = some 0 := by decide +kernel
theorem hd_M_at : y_M_at.cls ≠ "java/lang/invoke/MethodHandle" ∧ y_M_at.cls ≠ "java/lang/invoke/VarHandle" ∧ (parseMethodDescriptor y_M_at.desc).map (fun d => d.parameters.length) = some 4 := by decide +kernel
theorem hd_M_isPoint : y_M_isPoint.cls ≠ "java/lang/invoke/MethodHandle" ∧ y_M_isPoint.cls ≠ "java/lang/invoke/VarHandle" ∧ (parseMethodDescriptor y_M_isPoint.desc).map (fun d => d.parameters.length) = some 4 := by decide +kernel
theorem hd_M_polarAt : y_M_polarAt.cls ≠ "java/lang/invoke/MethodHandle" ∧ y_M_polarAt.cls ≠ "java/lang/invoke/VarHandle" ∧ (parseMethodDescriptor y_M_polarAt.desc).map (fun d => d.parameters.length) = some 1 := by decide +kernel
theorem hd_M_polar : y_M_polar.cls ≠ "java/lang/invoke/MethodHandle" ∧ y_M_polar.cls ≠ "java/lang/invoke/VarHandle" ∧ (parseMethodDescriptor y_M_polar.desc).map (fun d => d.parameters.length) = some 5 := by decide +kernel
theorem hd_M_without : y_M_without.cls ≠ "java/lang/invoke/MethodHandle" ∧ y_M_without.cls ≠ "java/lang/invoke/VarHandle" ∧ (parseMethodDescriptor y_M_without.desc).map (fun d => d.parameters.length) = some 2 := by decide +kernel
theorem hd_M_touches : y_M_touches.cls ≠ "java/lang/invoke/MethodHandle" ∧ y_M_touches.cls ≠ "java/lang/invoke/VarHandle" ∧ (parseMethodDescriptor y_M_touches.desc).map (fun d => d.parameters.length) = some 4 := by decide +kernel
theorem hd_M_section : y_M_section.cls ≠ "java/lang/invoke/MethodHandle" ∧ y_M_section.cls ≠ "java/lang/invoke/VarHandle" ∧ (parseMethodDescriptor y_M_section.desc).map (fun d => d.parameters.length) = some 4 := by decide +kernel
theorem hd_M_layBase : y_M_layBase.cls ≠ "java/lang/invoke/MethodHandle" ∧ y_M_layBase.cls ≠ "java/lang/invoke/VarHandle" ∧ (parseMethodDescriptor y_M_layBase.desc).map (fun d => d.parameters.length) = some 4 := by decide +kernel
theorem hd_M_layCut : y_M_layCut.cls ≠ "java/lang/invoke/MethodHandle" ∧ y_M_layCut.cls ≠ "java/lang/invoke/VarHandle" ∧ (parseMethodDescriptor y_M_layCut.desc).map (fun d => d.parameters.length) = some 1 := by decide +kernel
theorem hd_M_formOf : y_M_formOf.cls ≠ "java/lang/invoke/MethodHandle" ∧ y_M_formOf.cls ≠ "java/lang/invoke/VarHandle" ∧ (parseMethodDescriptor y_M_formOf.desc).map (fun d => d.parameters.length) = some 2 := by decide +kernel
theorem hd_M_meets : y_M_meets.cls ≠ "java/lang/invoke/MethodHandle" ∧ y_M_meets.cls ≠ "java/lang/invoke/VarHandle" ∧ (parseMethodDescriptor y_M_meets.desc).map (fun d => d.parameters.length) = some 6 := by decide +kernel
theorem hd_M_line : y_M_line.cls ≠ "java/lang/invoke/MethodHandle" ∧ y_M_line.cls ≠ "java/lang/invoke/VarHandle" ∧ (parseMethodDescriptor y_M_line.desc).map (fun d => d.parameters.length) = some 2 := by decide +kernel
theorem hd_M_findLines : y_M_findLines.cls ≠ "java/lang/invoke/MethodHandle" ∧ y_M_findLines.cls ≠ "java/lang/invoke/VarHandle" ∧ (parseMethodDescriptor y_M_findLines.desc).map (fun d => d.parameters.length) = some 1 := by decide +kernel
theorem hd_M_setLine : y_M_setLine.cls ≠ "java/lang/invoke/MethodHandle" ∧ y_M_setLine.cls ≠ "java/lang/invoke/VarHandle" ∧ (parseMethodDescriptor y_M_setLine.desc).map (fun d => d.parameters.length) = some 4 := by decide +kernel
theorem hd_M_findTwo : y_M_findTwo.cls ≠ "java/lang/invoke/MethodHandle" ∧ y_M_findTwo.cls ≠ "java/lang/invoke/VarHandle" ∧ (parseMethodDescriptor y_M_findTwo.desc).map (fun d => d.parameters.length) = some 1 := by decide +kernel
theorem hd_M_root : y_M_root.cls ≠ "java/lang/invoke/MethodHandle" ∧ y_M_root.cls ≠ "java/lang/invoke/VarHandle" ∧ (parseMethodDescriptor y_M_root.desc).map (fun d => d.parameters.length) = some 1 := by decide +kernel
theorem hd_M_isSecondFirst : y_M_isSecondFirst.cls ≠ "java/lang/invoke/MethodHandle" ∧ y_M_isSecondFirst.cls ≠ "java/lang/invoke/VarHandle" ∧ (parseMethodDescriptor y_M_isSecondFirst.desc).map (fun d => d.parameters.length) = some 0 := by decide +kernel
theorem hd_M_keep : y_M_keep.cls ≠ "java/lang/invoke/MethodHandle" ∧ y_M_keep.cls ≠ "java/lang/invoke/VarHandle" ∧ (parseMethodDescriptor y_M_keep.desc).map (fun d => d.parameters.length) = some 0 := by decide +kernel
theorem hd_M_alike : y_M_alike.cls ≠ "java/lang/invoke/MethodHandle" ∧ y_M_alike.cls ≠ "java/lang/invoke/VarHandle" ∧ (parseMethodDescriptor y_M_alike.desc).map (fun d => d.parameters.length) = some 0 := by decide +kernel
/-- the words that every method may use -/
def tW : List Cond := lw_tbl.filter goodWord
theorem tw_in {w : Cond} (i : Nat) (h : tables_1[i]? = some w) (g : goodWord w = true) : w ∈ tW := List.mem_filter.mpr ⟨List.mem_append_right _ (List.mem_of_getElem? h), g⟩
theorem tw_sel {w : Cond} (i : Nat) (h : (k2_sels lw_privs)[i]? = some w) (g : goodWord w = true) : w ∈ tW := List.mem_filter.mpr ⟨List.mem_append_left _ (List.mem_of_getElem? h), g⟩
theorem tW_good : GoodIn lw_tbl tW := fun w h => ⟨(List.mem_filter.mp h).1, good_of_word (List.mem_filter.mp h).2⟩
theorem tW_self : GoodIn tW tW := fun w h => ⟨h, good_of_word (List.mem_filter.mp h).2⟩
theorem tw_0 : (Cond.initialized R_L) ∈ tW := tw_in 0 (by decide +kernel) (by decide +kernel)
theorem tw_1 : (Cond.initialized R_K) ∈ tW := tw_in 1 (by decide +kernel) (by decide +kernel)
theorem tw_2 : (Cond.initialized R_T) ∈ tW := tw_in 2 (by decide +kernel) (by decide +kernel)
theorem tw_3 : (Cond.initialized R_M) ∈ tW := tw_in 3 (by decide +kernel) (by decide +kernel)
theorem tw_4 : (Cond.initialized R_A) ∈ tW := tw_in 4 (by decide +kernel) (by decide +kernel)
theorem tw_5 : (Cond.initialized "java/lang/System") ∈ tW := tw_in 5 (by decide +kernel) (by decide +kernel)
theorem tw_6 : (Cond.initialized "java/lang/Math") ∈ tW := tw_in 6 (by decide +kernel) (by decide +kernel)
theorem tw_11 : (Cond.classLink R_L 8 R_K) ∈ tW := tw_in 11 (by decide +kernel) (by decide +kernel)
theorem tw_12 : (Cond.instantiable R_K 8) ∈ tW := tw_in 12 (by decide +kernel) (by decide +kernel)
theorem tw_13 : (Cond.methodLink R_L 15 y_K_init) ∈ tW := tw_in 13 (by decide +kernel) (by decide +kernel)
theorem tw_14 : (Cond.instanceMethod y_K_init) ∈ tW := tw_in 14 (by decide +kernel) (by decide +kernel)
theorem tw_15 : (Cond.code y_K_init prog_1_method_1_code 1 none) ∈ tW := tw_in 15 (by decide +kernel) (by decide +kernel)
theorem tw_16 : (Cond.methodLink R_K 1 objectInit) ∈ tW := tw_in 16 (by decide +kernel) (by decide +kernel)
theorem tw_17 : (Cond.instanceMethod objectInit) ∈ tW := tw_in 17 (by decide +kernel) (by decide +kernel)
theorem tw_18 : (Cond.code objectInit object_method_1_code 1 none) ∈ tW := tw_in 18 (by decide +kernel) (by decide +kernel)
theorem tw_19 : (Cond.classLink R_K 24 R_T) ∈ tW := tw_in 19 (by decide +kernel) (by decide +kernel)
theorem tw_20 : (Cond.instantiable R_T 5) ∈ tW := tw_in 20 (by decide +kernel) (by decide +kernel)
theorem tw_22 : (Cond.instanceMethod y_T_init) ∈ tW := tw_in 22 (by decide +kernel) (by decide +kernel)
theorem tw_23 : (Cond.code y_T_init prog_2_method_1_code 1 none) ∈ tW := tw_in 23 (by decide +kernel) (by decide +kernel)
theorem tw_24 : (Cond.methodLink R_T 3 objectInit) ∈ tW := tw_in 24 (by decide +kernel) (by decide +kernel)
theorem tw_25 : (Cond.fieldLink R_T 9 R_T "rows" "I") ∈ tW := tw_in 25 (by decide +kernel) (by decide +kernel)
theorem tw_26 : (Cond.fieldLink R_T 15 R_T "cells" "[J") ∈ tW := tw_in 26 (by decide +kernel) (by decide +kernel)
theorem tw_27 : (Cond.fieldLink R_T 19 R_T "factor" "[J") ∈ tW := tw_in 27 (by decide +kernel) (by decide +kernel)
theorem tw_28 : (Cond.fieldLink R_T 22 R_T "product" "[J") ∈ tW := tw_in 28 (by decide +kernel) (by decide +kernel)
theorem tw_29 : (Cond.fieldLink R_T 25 R_T "coefficients" "[J") ∈ tW := tw_in 29 (by decide +kernel) (by decide +kernel)
theorem tw_30 : (Cond.lays R_T R_T "rows" "I") ∈ tW := tw_in 30 (by decide +kernel) (by decide +kernel)
theorem tw_32 : (Cond.laysFinal R_T R_T "cells" "[J") ∈ tW := tw_in 32 (by decide +kernel) (by decide +kernel)
theorem tw_34 : (Cond.laysFinal R_T R_T "factor" "[J") ∈ tW := tw_in 34 (by decide +kernel) (by decide +kernel)
theorem tw_36 : (Cond.laysFinal R_T R_T "product" "[J") ∈ tW := tw_in 36 (by decide +kernel) (by decide +kernel)
theorem tw_38 : (Cond.laysFinal R_T R_T "coefficients" "[J") ∈ tW := tw_in 38 (by decide +kernel) (by decide +kernel)
theorem tw_41 : (Cond.arrayClass FieldType.long) ∈ tW := tw_in 41 (by decide +kernel) (by decide +kernel)
theorem tw_42 : (Cond.fieldLink R_K 7 R_K "size" "I") ∈ tW := tw_in 42 (by decide +kernel) (by decide +kernel)
theorem tw_43 : (Cond.fieldLink R_K 13 R_K "hasKept" "Z") ∈ tW := tw_in 43 (by decide +kernel) (by decide +kernel)
theorem tw_44 : (Cond.fieldLink R_K 17 R_K "form" "[J") ∈ tW := tw_in 44 (by decide +kernel) (by decide +kernel)
theorem tw_45 : (Cond.fieldLink R_K 21 R_K "kept" "[J") ∈ tW := tw_in 45 (by decide +kernel) (by decide +kernel)
theorem tw_46 : (Cond.fieldLink R_K 27 R_K "table" "LConicKinds$Table;") ∈ tW := tw_in 46 (by decide +kernel) (by decide +kernel)
theorem tw_47 : (Cond.fieldLink R_K 31 R_K "work" "[J") ∈ tW := tw_in 47 (by decide +kernel) (by decide +kernel)
theorem tw_48 : (Cond.fieldLink R_K 34 R_K "first" "[J") ∈ tW := tw_in 48 (by decide +kernel) (by decide +kernel)
theorem tw_49 : (Cond.fieldLink R_K 37 R_K "second" "[J") ∈ tW := tw_in 49 (by decide +kernel) (by decide +kernel)
theorem tw_50 : (Cond.lays R_K R_K "size" "I") ∈ tW := tw_in 50 (by decide +kernel) (by decide +kernel)
theorem tw_52 : (Cond.lays R_K R_K "hasKept" "Z") ∈ tW := tw_in 52 (by decide +kernel) (by decide +kernel)
theorem tw_54 : (Cond.laysFinal R_K R_K "form" "[J") ∈ tW := tw_in 54 (by decide +kernel) (by decide +kernel)
theorem tw_56 : (Cond.laysFinal R_K R_K "kept" "[J") ∈ tW := tw_in 56 (by decide +kernel) (by decide +kernel)
theorem tw_58 : (Cond.laysFinal R_K R_K "table" "LConicKinds$Table;") ∈ tW := tw_in 58 (by decide +kernel) (by decide +kernel)
theorem tw_60 : (Cond.laysFinal R_K R_K "work" "[J") ∈ tW := tw_in 60 (by decide +kernel) (by decide +kernel)
theorem tw_62 : (Cond.laysFinal R_K R_K "first" "[J") ∈ tW := tw_in 62 (by decide +kernel) (by decide +kernel)
theorem tw_64 : (Cond.laysFinal R_K R_K "second" "[J") ∈ tW := tw_in 64 (by decide +kernel) (by decide +kernel)
theorem tw_67 : (Cond.methodLink R_L 19 y_K_dimension) ∈ tW := tw_in 67 (by decide +kernel) (by decide +kernel)
theorem tw_68 : (Cond.instanceMethod y_K_dimension) ∈ tW := tw_in 68 (by decide +kernel) (by decide +kernel)
theorem tw_69 : (Cond.selects R_K y_K_dimension y_K_dimension) ∈ tW := tw_in 69 (by decide +kernel) (by decide +kernel)
theorem tw_70 : (Cond.code y_K_dimension prog_1_method_2_code 3 (some .int)) ∈ tW := tw_in 70 (by decide +kernel) (by decide +kernel)
theorem tw_71 : (Cond.methodLink R_K 40 y_A_fill) ∈ tW := tw_in 71 (by decide +kernel) (by decide +kernel)
theorem tw_72 : (Cond.static y_A_fill) ∈ tW := tw_in 72 (by decide +kernel) (by decide +kernel)
theorem tw_73 : (Cond.code y_A_fill prog_12_method_101_code 5 none) ∈ tW := tw_in 73 (by decide +kernel) (by decide +kernel)
theorem tw_74 : (Cond.methodLink R_L 24 y_K_put) ∈ tW := tw_in 74 (by decide +kernel) (by decide +kernel)
theorem tw_75 : (Cond.instanceMethod y_K_put) ∈ tW := tw_in 75 (by decide +kernel) (by decide +kernel)
theorem tw_76 : (Cond.selects R_K y_K_put y_K_put) ∈ tW := tw_in 76 (by decide +kernel) (by decide +kernel)
theorem tw_77 : (Cond.code y_K_put prog_1_method_3_code 6 (some .long)) ∈ tW := tw_in 77 (by decide +kernel) (by decide +kernel)
theorem tw_78 : (Cond.methodLink R_K 46 y_K_isNoPlace) ∈ tW := tw_in 78 (by decide +kernel) (by decide +kernel)
theorem tw_80 : (Cond.instanceMethod y_K_isNoPlace) ∈ tW := tw_in 80 (by decide +kernel) (by decide +kernel)
theorem tw_81 : (Cond.code y_K_isNoPlace prog_1_method_21_code 2 (some .boolean)) ∈ tW := tw_in 81 (by decide +kernel) (by decide +kernel)
theorem tw_82 : (Cond.methodLink R_K 50 y_K_isBeyond) ∈ tW := tw_in 82 (by decide +kernel) (by decide +kernel)
theorem tw_83 : (Cond.static y_K_isBeyond) ∈ tW := tw_in 83 (by decide +kernel) (by decide +kernel)
theorem tw_84 : (Cond.code y_K_isBeyond prog_1_method_23_code 3 (some .boolean)) ∈ tW := tw_in 84 (by decide +kernel) (by decide +kernel)
theorem tw_85 : (Cond.constantLong R_K 54 (lI (-1000000000000000000))) ∈ tW := tw_in 85 (by decide +kernel) (by decide +kernel)
theorem tw_86 : (Cond.methodLink R_K 56 y_K_place) ∈ tW := tw_in 86 (by decide +kernel) (by decide +kernel)
theorem tw_87 : (Cond.static y_K_place) ∈ tW := tw_in 87 (by decide +kernel) (by decide +kernel)
theorem tw_88 : (Cond.code y_K_place prog_1_method_20_code 2 (some .int)) ∈ tW := tw_in 88 (by decide +kernel) (by decide +kernel)
theorem tw_89 : (Cond.methodLink R_L 29 y_K_kind) ∈ tW := tw_in 89 (by decide +kernel) (by decide +kernel)
theorem tw_90 : (Cond.instanceMethod y_K_kind) ∈ tW := tw_in 90 (by decide +kernel) (by decide +kernel)
theorem tw_91 : (Cond.selects R_K y_K_kind y_K_kind) ∈ tW := tw_in 91 (by decide +kernel) (by decide +kernel)
theorem tw_92 : (Cond.code y_K_kind prog_1_method_4_code 1 (some .int)) ∈ tW := tw_in 92 (by decide +kernel) (by decide +kernel)
theorem tw_93 : (Cond.methodLink R_K 60 y_K_kindOf) ∈ tW := tw_in 93 (by decide +kernel) (by decide +kernel)
theorem tw_95 : (Cond.instanceMethod y_K_kindOf) ∈ tW := tw_in 95 (by decide +kernel) (by decide +kernel)
theorem tw_96 : (Cond.code y_K_kindOf prog_1_method_34_code 9 (some .int)) ∈ tW := tw_in 96 (by decide +kernel) (by decide +kernel)
theorem tw_97 : (Cond.methodLink R_K 64 y_T_load) ∈ tW := tw_in 97 (by decide +kernel) (by decide +kernel)
theorem tw_98 : (Cond.instanceMethod y_T_load) ∈ tW := tw_in 98 (by decide +kernel) (by decide +kernel)
theorem tw_99 : (Cond.selects R_T y_T_load y_T_load) ∈ tW := tw_in 99 (by decide +kernel) (by decide +kernel)
theorem tw_100 : (Cond.code y_T_load prog_2_method_2_code 6 none) ∈ tW := tw_in 100 (by decide +kernel) (by decide +kernel)
theorem tw_102 : (Cond.methodLink R_T 32 y_T_expand) ∈ tW := tw_in 102 (by decide +kernel) (by decide +kernel)
theorem tw_104 : (Cond.instanceMethod y_T_expand) ∈ tW := tw_in 104 (by decide +kernel) (by decide +kernel)
theorem tw_105 : (Cond.code y_T_expand prog_2_method_3_code 3 none) ∈ tW := tw_in 105 (by decide +kernel) (by decide +kernel)
theorem tw_106 : (Cond.methodLink R_T 35 y_A_fill) ∈ tW := tw_in 106 (by decide +kernel) (by decide +kernel)
theorem tw_107 : (Cond.methodLink R_T 41 arraycopyName) ∈ tW := tw_in 107 (by decide +kernel) (by decide +kernel)
theorem tw_108 : (Cond.static arraycopyName) ∈ tW := tw_in 108 (by decide +kernel) (by decide +kernel)
theorem tw_109 : (Cond.native arraycopyName) ∈ tW := tw_in 109 (by decide +kernel) (by decide +kernel)
theorem tw_110 : (Cond.methodLink R_T 47 y_T_multiply) ∈ tW := tw_in 110 (by decide +kernel) (by decide +kernel)
theorem tw_112 : (Cond.instanceMethod y_T_multiply) ∈ tW := tw_in 112 (by decide +kernel) (by decide +kernel)
theorem tw_113 : (Cond.code y_T_multiply prog_2_method_4_code 6 none) ∈ tW := tw_in 113 (by decide +kernel) (by decide +kernel)
theorem tw_114 : (Cond.methodLink R_T 50 y_T_diagonal) ∈ tW := tw_in 114 (by decide +kernel) (by decide +kernel)
theorem tw_116 : (Cond.instanceMethod y_T_diagonal) ∈ tW := tw_in 116 (by decide +kernel) (by decide +kernel)
theorem tw_117 : (Cond.code y_T_diagonal prog_2_method_5_code 4 (some .long)) ∈ tW := tw_in 117 (by decide +kernel) (by decide +kernel)
theorem tw_118 : (Cond.methodLink R_K 68 y_T_countAbove) ∈ tW := tw_in 118 (by decide +kernel) (by decide +kernel)
theorem tw_119 : (Cond.instanceMethod y_T_countAbove) ∈ tW := tw_in 119 (by decide +kernel) (by decide +kernel)
theorem tw_120 : (Cond.selects R_T y_T_countAbove y_T_countAbove) ∈ tW := tw_in 120 (by decide +kernel) (by decide +kernel)
theorem tw_121 : (Cond.code y_T_countAbove prog_2_method_11_code 7 (some .int)) ∈ tW := tw_in 121 (by decide +kernel) (by decide +kernel)
theorem tw_122 : (Cond.methodLink R_K 72 y_T_countBelow) ∈ tW := tw_in 122 (by decide +kernel) (by decide +kernel)
theorem tw_123 : (Cond.instanceMethod y_T_countBelow) ∈ tW := tw_in 123 (by decide +kernel) (by decide +kernel)
theorem tw_124 : (Cond.selects R_T y_T_countBelow y_T_countBelow) ∈ tW := tw_in 124 (by decide +kernel) (by decide +kernel)
theorem tw_125 : (Cond.code y_T_countBelow prog_2_method_12_code 1 (some .int)) ∈ tW := tw_in 125 (by decide +kernel) (by decide +kernel)
theorem tw_126 : (Cond.methodLink R_T 54 y_T_rank) ∈ tW := tw_in 126 (by decide +kernel) (by decide +kernel)
theorem tw_127 : (Cond.instanceMethod y_T_rank) ∈ tW := tw_in 127 (by decide +kernel) (by decide +kernel)
theorem tw_128 : (Cond.selects R_T y_T_rank y_T_rank) ∈ tW := tw_in 128 (by decide +kernel) (by decide +kernel)
theorem tw_129 : (Cond.code y_T_rank prog_2_method_10_code 2 (some .int)) ∈ tW := tw_in 129 (by decide +kernel) (by decide +kernel)
theorem tw_130 : (Cond.methodLink R_T 58 y_T_countAbove) ∈ tW := tw_in 130 (by decide +kernel) (by decide +kernel)
theorem tw_131 : (Cond.methodLink R_K 168 y_K_codeOf) ∈ tW := tw_in 131 (by decide +kernel) (by decide +kernel)
theorem tw_132 : (Cond.static y_K_codeOf) ∈ tW := tw_in 132 (by decide +kernel) (by decide +kernel)
theorem tw_133 : (Cond.code y_K_codeOf prog_1_method_35_code 4 (some .int)) ∈ tW := tw_in 133 (by decide +kernel) (by decide +kernel)
theorem tw_134 : (Cond.methodLink R_K 172 y_K_kindInPlane) ∈ tW := tw_in 134 (by decide +kernel) (by decide +kernel)
theorem tw_135 : (Cond.static y_K_kindInPlane) ∈ tW := tw_in 135 (by decide +kernel) (by decide +kernel)
theorem tw_136 : (Cond.code y_K_kindInPlane prog_1_method_36_code 1 (some .int)) ∈ tW := tw_in 136 (by decide +kernel) (by decide +kernel)
theorem tw_137 : (Cond.methodLink R_K 175 y_K_kindInSpace) ∈ tW := tw_in 137 (by decide +kernel) (by decide +kernel)
theorem tw_138 : (Cond.static y_K_kindInSpace) ∈ tW := tw_in 138 (by decide +kernel) (by decide +kernel)
theorem tw_139 : (Cond.code y_K_kindInSpace prog_1_method_37_code 1 (some .int)) ∈ tW := tw_in 139 (by decide +kernel) (by decide +kernel)
theorem tw_140 : (Cond.methodLink R_L 34 y_K_signs) ∈ tW := tw_in 140 (by decide +kernel) (by decide +kernel)
theorem tw_141 : (Cond.instanceMethod y_K_signs) ∈ tW := tw_in 141 (by decide +kernel) (by decide +kernel)
theorem tw_142 : (Cond.selects R_K y_K_signs y_K_signs) ∈ tW := tw_in 142 (by decide +kernel) (by decide +kernel)
theorem tw_143 : (Cond.code y_K_signs prog_1_method_5_code 2 (some .int)) ∈ tW := tw_in 143 (by decide +kernel) (by decide +kernel)
theorem tw_144 : (Cond.methodLink R_L 38 y_K_determinant) ∈ tW := tw_in 144 (by decide +kernel) (by decide +kernel)
theorem tw_145 : (Cond.instanceMethod y_K_determinant) ∈ tW := tw_in 145 (by decide +kernel) (by decide +kernel)
theorem tw_146 : (Cond.selects R_K y_K_determinant y_K_determinant) ∈ tW := tw_in 146 (by decide +kernel) (by decide +kernel)
theorem tw_147 : (Cond.code y_K_determinant prog_1_method_6_code 2 (some .long)) ∈ tW := tw_in 147 (by decide +kernel) (by decide +kernel)
theorem tw_148 : (Cond.methodLink R_K 75 y_T_sumOfValues) ∈ tW := tw_in 148 (by decide +kernel) (by decide +kernel)
theorem tw_149 : (Cond.instanceMethod y_T_sumOfValues) ∈ tW := tw_in 149 (by decide +kernel) (by decide +kernel)
theorem tw_150 : (Cond.selects R_T y_T_sumOfValues y_T_sumOfValues) ∈ tW := tw_in 150 (by decide +kernel) (by decide +kernel)
theorem tw_151 : (Cond.code y_T_sumOfValues prog_2_method_8_code 1 (some .long)) ∈ tW := tw_in 151 (by decide +kernel) (by decide +kernel)
theorem tw_152 : (Cond.methodLink R_K 79 y_T_sumOfPairs) ∈ tW := tw_in 152 (by decide +kernel) (by decide +kernel)
theorem tw_153 : (Cond.instanceMethod y_T_sumOfPairs) ∈ tW := tw_in 153 (by decide +kernel) (by decide +kernel)
theorem tw_154 : (Cond.selects R_T y_T_sumOfPairs y_T_sumOfPairs) ∈ tW := tw_in 154 (by decide +kernel) (by decide +kernel)
theorem tw_155 : (Cond.code y_T_sumOfPairs prog_2_method_9_code 1 (some .long)) ∈ tW := tw_in 155 (by decide +kernel) (by decide +kernel)
theorem tw_156 : (Cond.methodLink R_K 82 y_T_productOfValues) ∈ tW := tw_in 156 (by decide +kernel) (by decide +kernel)
theorem tw_157 : (Cond.instanceMethod y_T_productOfValues) ∈ tW := tw_in 157 (by decide +kernel) (by decide +kernel)
theorem tw_158 : (Cond.selects R_T y_T_productOfValues y_T_productOfValues) ∈ tW := tw_in 158 (by decide +kernel) (by decide +kernel)
theorem tw_159 : (Cond.code y_T_productOfValues prog_2_method_7_code 1 (some .long)) ∈ tW := tw_in 159 (by decide +kernel) (by decide +kernel)
theorem tw_160 : (Cond.methodLink R_L 42 y_K_middles) ∈ tW := tw_in 160 (by decide +kernel) (by decide +kernel)
theorem tw_161 : (Cond.instanceMethod y_K_middles) ∈ tW := tw_in 161 (by decide +kernel) (by decide +kernel)
theorem tw_162 : (Cond.selects R_K y_K_middles y_K_middles) ∈ tW := tw_in 162 (by decide +kernel) (by decide +kernel)
theorem tw_163 : (Cond.code y_K_middles prog_1_method_7_code 2 (some .int)) ∈ tW := tw_in 163 (by decide +kernel) (by decide +kernel)
theorem tw_164 : (Cond.methodLink R_K 85 y_T_rank) ∈ tW := tw_in 164 (by decide +kernel) (by decide +kernel)
theorem tw_165 : (Cond.methodLink R_L 46 y_K_middle) ∈ tW := tw_in 165 (by decide +kernel) (by decide +kernel)
theorem tw_166 : (Cond.instanceMethod y_K_middle) ∈ tW := tw_in 166 (by decide +kernel) (by decide +kernel)
theorem tw_167 : (Cond.selects R_K y_K_middle y_K_middle) ∈ tW := tw_in 167 (by decide +kernel) (by decide +kernel)
theorem tw_168 : (Cond.code y_K_middle prog_1_method_8_code 6 (some .long)) ∈ tW := tw_in 168 (by decide +kernel) (by decide +kernel)
theorem tw_169 : (Cond.methodLink R_K 88 y_K_isNoPart) ∈ tW := tw_in 169 (by decide +kernel) (by decide +kernel)
theorem tw_170 : (Cond.static y_K_isNoPart) ∈ tW := tw_in 170 (by decide +kernel) (by decide +kernel)
theorem tw_171 : (Cond.code y_K_isNoPart prog_1_method_22_code 1 (some .boolean)) ∈ tW := tw_in 171 (by decide +kernel) (by decide +kernel)
theorem tw_172 : (Cond.methodLink R_K 91 y_T_adjugate) ∈ tW := tw_in 172 (by decide +kernel) (by decide +kernel)
theorem tw_173 : (Cond.instanceMethod y_T_adjugate) ∈ tW := tw_in 173 (by decide +kernel) (by decide +kernel)
theorem tw_174 : (Cond.selects R_T y_T_adjugate y_T_adjugate) ∈ tW := tw_in 174 (by decide +kernel) (by decide +kernel)
theorem tw_175 : (Cond.code y_T_adjugate prog_2_method_6_code 3 (some .long)) ∈ tW := tw_in 175 (by decide +kernel) (by decide +kernel)
theorem tw_176 : (Cond.methodLink R_K 95 y_K_partOfFraction) ∈ tW := tw_in 176 (by decide +kernel) (by decide +kernel)
theorem tw_177 : (Cond.static y_K_partOfFraction) ∈ tW := tw_in 177 (by decide +kernel) (by decide +kernel)
theorem tw_178 : (Cond.code y_K_partOfFraction prog_1_method_32_code 9 (some .long)) ∈ tW := tw_in 178 (by decide +kernel) (by decide +kernel)
theorem tw_179 : (Cond.methodLink R_K 164 y_K_greatestDivisor) ∈ tW := tw_in 179 (by decide +kernel) (by decide +kernel)
theorem tw_180 : (Cond.static y_K_greatestDivisor) ∈ tW := tw_in 180 (by decide +kernel) (by decide +kernel)
theorem tw_181 : (Cond.code y_K_greatestDivisor prog_1_method_31_code 11 (some .long)) ∈ tW := tw_in 181 (by decide +kernel) (by decide +kernel)
theorem tw_182 : (Cond.methodLink R_K 158 Lib.MathLoose.abs_long.x) ∈ tW := tw_in 182 (by decide +kernel) (by decide +kernel)
theorem tw_183 : (Cond.static Lib.MathLoose.abs_long.x) ∈ tW := tw_in 183 (by decide +kernel) (by decide +kernel)
theorem tw_184 : (Cond.code Lib.MathLoose.abs_long.x Lib.MathLoose.abs_long.code 2 (some .long)) ∈ tW := tw_in 184 (by decide +kernel) (by decide +kernel)
theorem tw_185 : (Cond.methodLink R_L 60 y_K_below) ∈ tW := tw_in 185 (by decide +kernel) (by decide +kernel)
theorem tw_186 : (Cond.instanceMethod y_K_below) ∈ tW := tw_in 186 (by decide +kernel) (by decide +kernel)
theorem tw_187 : (Cond.selects R_K y_K_below y_K_below) ∈ tW := tw_in 187 (by decide +kernel) (by decide +kernel)
theorem tw_188 : (Cond.code y_K_below prog_1_method_10_code 5 (some .int)) ∈ tW := tw_in 188 (by decide +kernel) (by decide +kernel)
theorem tw_189 : (Cond.methodLink R_L 65 y_K_unlike) ∈ tW := tw_in 189 (by decide +kernel) (by decide +kernel)
theorem tw_190 : (Cond.instanceMethod y_K_unlike) ∈ tW := tw_in 190 (by decide +kernel) (by decide +kernel)
theorem tw_191 : (Cond.selects R_K y_K_unlike y_K_unlike) ∈ tW := tw_in 191 (by decide +kernel) (by decide +kernel)
theorem tw_192 : (Cond.code y_K_unlike prog_1_method_11_code 1 (some .int)) ∈ tW := tw_in 192 (by decide +kernel) (by decide +kernel)
theorem tw_193 : (Cond.methodLink R_K 106 y_T_countUnlike) ∈ tW := tw_in 193 (by decide +kernel) (by decide +kernel)
theorem tw_194 : (Cond.instanceMethod y_T_countUnlike) ∈ tW := tw_in 194 (by decide +kernel) (by decide +kernel)
theorem tw_195 : (Cond.selects R_T y_T_countUnlike y_T_countUnlike) ∈ tW := tw_in 195 (by decide +kernel) (by decide +kernel)
theorem tw_196 : (Cond.code y_T_countUnlike prog_2_method_13_code 5 (some .int)) ∈ tW := tw_in 196 (by decide +kernel) (by decide +kernel)
theorem tw_197 : (Cond.methodLink R_T 61 y_T_sumOfValues) ∈ tW := tw_in 197 (by decide +kernel) (by decide +kernel)
theorem tw_198 : (Cond.methodLink R_T 64 y_T_sumOfPairs) ∈ tW := tw_in 198 (by decide +kernel) (by decide +kernel)
theorem tw_199 : (Cond.constantLong R_T 67 (lI 4)) ∈ tW := tw_in 199 (by decide +kernel) (by decide +kernel)
theorem tw_200 : (Cond.constantLong R_T 69 (lI 3)) ∈ tW := tw_in 200 (by decide +kernel) (by decide +kernel)
theorem tw_201 : (Cond.methodLink R_T 71 y_T_productOfValues) ∈ tW := tw_in 201 (by decide +kernel) (by decide +kernel)
theorem tw_202 : (Cond.methodLink R_T 74 y_T_discriminant) ∈ tW := tw_in 202 (by decide +kernel) (by decide +kernel)
theorem tw_203 : (Cond.static y_T_discriminant) ∈ tW := tw_in 203 (by decide +kernel) (by decide +kernel)
theorem tw_204 : (Cond.code y_T_discriminant prog_2_method_14_code 6 (some .long)) ∈ tW := tw_in 204 (by decide +kernel) (by decide +kernel)
theorem tw_205 : (Cond.constantLong R_T 78 (lI 18)) ∈ tW := tw_in 205 (by decide +kernel) (by decide +kernel)
theorem tw_206 : (Cond.constantLong R_T 80 (lI 27)) ∈ tW := tw_in 206 (by decide +kernel) (by decide +kernel)
theorem tw_207 : (Cond.methodLink R_L 69 y_K_at) ∈ tW := tw_in 207 (by decide +kernel) (by decide +kernel)
theorem tw_208 : (Cond.instanceMethod y_K_at) ∈ tW := tw_in 208 (by decide +kernel) (by decide +kernel)
theorem tw_209 : (Cond.selects R_K y_K_at y_K_at) ∈ tW := tw_in 209 (by decide +kernel) (by decide +kernel)
theorem tw_210 : (Cond.code y_K_at prog_1_method_12_code 5 (some .int)) ∈ tW := tw_in 210 (by decide +kernel) (by decide +kernel)
theorem tw_211 : (Cond.methodLink R_K 109 y_K_takePoint) ∈ tW := tw_in 211 (by decide +kernel) (by decide +kernel)
theorem tw_213 : (Cond.instanceMethod y_K_takePoint) ∈ tW := tw_in 213 (by decide +kernel) (by decide +kernel)
theorem tw_214 : (Cond.code y_K_takePoint prog_1_method_28_code 5 (some .boolean)) ∈ tW := tw_in 214 (by decide +kernel) (by decide +kernel)
theorem tw_215 : (Cond.methodLink R_K 129 y_K_setRow) ∈ tW := tw_in 215 (by decide +kernel) (by decide +kernel)
theorem tw_217 : (Cond.instanceMethod y_K_setRow) ∈ tW := tw_in 217 (by decide +kernel) (by decide +kernel)
theorem tw_218 : (Cond.code y_K_setRow prog_1_method_25_code 10 none) ∈ tW := tw_in 218 (by decide +kernel) (by decide +kernel)
theorem tw_219 : (Cond.methodLink R_K 133 y_K_isRowBeyond) ∈ tW := tw_in 219 (by decide +kernel) (by decide +kernel)
theorem tw_220 : (Cond.static y_K_isRowBeyond) ∈ tW := tw_in 220 (by decide +kernel) (by decide +kernel)
theorem tw_221 : (Cond.code y_K_isRowBeyond prog_1_method_26_code 3 (some .boolean)) ∈ tW := tw_in 221 (by decide +kernel) (by decide +kernel)
theorem tw_222 : (Cond.methodLink R_K 113 y_K_formOf) ∈ tW := tw_in 222 (by decide +kernel) (by decide +kernel)
theorem tw_224 : (Cond.instanceMethod y_K_formOf) ∈ tW := tw_in 224 (by decide +kernel) (by decide +kernel)
theorem tw_225 : (Cond.code y_K_formOf prog_1_method_30_code 6 (some .long)) ∈ tW := tw_in 225 (by decide +kernel) (by decide +kernel)
theorem tw_226 : (Cond.methodLink R_K 121 y_K_rowTimes) ∈ tW := tw_in 226 (by decide +kernel) (by decide +kernel)
theorem tw_228 : (Cond.instanceMethod y_K_rowTimes) ∈ tW := tw_in 228 (by decide +kernel) (by decide +kernel)
theorem tw_229 : (Cond.code y_K_rowTimes prog_1_method_29_code 6 (some .long)) ∈ tW := tw_in 229 (by decide +kernel) (by decide +kernel)
theorem tw_230 : (Cond.methodLink R_K 117 y_K_signCode) ∈ tW := tw_in 230 (by decide +kernel) (by decide +kernel)
theorem tw_231 : (Cond.static y_K_signCode) ∈ tW := tw_in 231 (by decide +kernel) (by decide +kernel)
theorem tw_232 : (Cond.code y_K_signCode prog_1_method_24_code 2 (some .int)) ∈ tW := tw_in 232 (by decide +kernel) (by decide +kernel)
theorem tw_233 : (Cond.methodLink R_L 74 y_K_polar) ∈ tW := tw_in 233 (by decide +kernel) (by decide +kernel)
theorem tw_234 : (Cond.instanceMethod y_K_polar) ∈ tW := tw_in 234 (by decide +kernel) (by decide +kernel)
theorem tw_235 : (Cond.selects R_K y_K_polar y_K_polar) ∈ tW := tw_in 235 (by decide +kernel) (by decide +kernel)
theorem tw_236 : (Cond.code y_K_polar prog_1_method_13_code 7 (some .long)) ∈ tW := tw_in 236 (by decide +kernel) (by decide +kernel)
theorem tw_237 : (Cond.methodLink R_K 125 y_K_clearDivisor) ∈ tW := tw_in 237 (by decide +kernel) (by decide +kernel)
theorem tw_238 : (Cond.static y_K_clearDivisor) ∈ tW := tw_in 238 (by decide +kernel) (by decide +kernel)
theorem tw_239 : (Cond.code y_K_clearDivisor prog_1_method_33_code 9 (some .boolean)) ∈ tW := tw_in 239 (by decide +kernel) (by decide +kernel)
theorem tw_240 : (Cond.methodLink R_L 79 y_K_touches) ∈ tW := tw_in 240 (by decide +kernel) (by decide +kernel)
theorem tw_241 : (Cond.instanceMethod y_K_touches) ∈ tW := tw_in 241 (by decide +kernel) (by decide +kernel)
theorem tw_242 : (Cond.selects R_K y_K_touches y_K_touches) ∈ tW := tw_in 242 (by decide +kernel) (by decide +kernel)
theorem tw_243 : (Cond.code y_K_touches prog_1_method_14_code 9 (some .int)) ∈ tW := tw_in 243 (by decide +kernel) (by decide +kernel)
theorem tw_244 : (Cond.methodLink R_K 136 y_K_isAllZero) ∈ tW := tw_in 244 (by decide +kernel) (by decide +kernel)
theorem tw_245 : (Cond.static y_K_isAllZero) ∈ tW := tw_in 245 (by decide +kernel) (by decide +kernel)
theorem tw_246 : (Cond.code y_K_isAllZero prog_1_method_27_code 4 (some .boolean)) ∈ tW := tw_in 246 (by decide +kernel) (by decide +kernel)
theorem tw_247 : (Cond.methodLink R_L 83 y_K_section) ∈ tW := tw_in 247 (by decide +kernel) (by decide +kernel)
theorem tw_248 : (Cond.instanceMethod y_K_section) ∈ tW := tw_in 248 (by decide +kernel) (by decide +kernel)
theorem tw_249 : (Cond.selects R_K y_K_section y_K_section) ∈ tW := tw_in 249 (by decide +kernel) (by decide +kernel)
theorem tw_250 : (Cond.code y_K_section prog_1_method_15_code 5 (some .int)) ∈ tW := tw_in 250 (by decide +kernel) (by decide +kernel)
theorem tw_251 : (Cond.methodLink R_K 140 y_K_cutInto) ∈ tW := tw_in 251 (by decide +kernel) (by decide +kernel)
theorem tw_253 : (Cond.instanceMethod y_K_cutInto) ∈ tW := tw_in 253 (by decide +kernel) (by decide +kernel)
theorem tw_254 : (Cond.code y_K_cutInto prog_1_method_38_code 5 none) ∈ tW := tw_in 254 (by decide +kernel) (by decide +kernel)
theorem tw_255 : (Cond.methodLink R_K 178 y_K_cutCell) ∈ tW := tw_in 255 (by decide +kernel) (by decide +kernel)
theorem tw_257 : (Cond.instanceMethod y_K_cutCell) ∈ tW := tw_in 257 (by decide +kernel) (by decide +kernel)
theorem tw_258 : (Cond.code y_K_cutCell prog_1_method_39_code 6 (some .long)) ∈ tW := tw_in 258 (by decide +kernel) (by decide +kernel)
theorem tw_259 : (Cond.methodLink R_L 87 y_K_meets) ∈ tW := tw_in 259 (by decide +kernel) (by decide +kernel)
theorem tw_260 : (Cond.instanceMethod y_K_meets) ∈ tW := tw_in 260 (by decide +kernel) (by decide +kernel)
theorem tw_261 : (Cond.selects R_K y_K_meets y_K_meets) ∈ tW := tw_in 261 (by decide +kernel) (by decide +kernel)
theorem tw_262 : (Cond.code y_K_meets prog_1_method_16_code 13 (some .int)) ∈ tW := tw_in 262 (by decide +kernel) (by decide +kernel)
theorem tw_263 : (Cond.methodLink R_L 92 y_K_line) ∈ tW := tw_in 263 (by decide +kernel) (by decide +kernel)
theorem tw_264 : (Cond.instanceMethod y_K_line) ∈ tW := tw_in 264 (by decide +kernel) (by decide +kernel)
theorem tw_265 : (Cond.selects R_K y_K_line y_K_line) ∈ tW := tw_in 265 (by decide +kernel) (by decide +kernel)
theorem tw_266 : (Cond.code y_K_line prog_1_method_17_code 5 (some .long)) ∈ tW := tw_in 266 (by decide +kernel) (by decide +kernel)
theorem tw_267 : (Cond.methodLink R_K 144 y_K_takeLines) ∈ tW := tw_in 267 (by decide +kernel) (by decide +kernel)
theorem tw_269 : (Cond.instanceMethod y_K_takeLines) ∈ tW := tw_in 269 (by decide +kernel) (by decide +kernel)
theorem tw_270 : (Cond.code y_K_takeLines prog_1_method_40_code 2 (some .int)) ∈ tW := tw_in 270 (by decide +kernel) (by decide +kernel)
theorem tw_271 : (Cond.constantLong R_K 182 (lI 2)) ∈ tW := tw_in 271 (by decide +kernel) (by decide +kernel)
theorem tw_272 : (Cond.methodLink R_K 184 y_K_takeFormRow) ∈ tW := tw_in 272 (by decide +kernel) (by decide +kernel)
theorem tw_274 : (Cond.instanceMethod y_K_takeFormRow) ∈ tW := tw_in 274 (by decide +kernel) (by decide +kernel)
theorem tw_275 : (Cond.code y_K_takeFormRow prog_1_method_41_code 2 none) ∈ tW := tw_in 275 (by decide +kernel) (by decide +kernel)
theorem tw_276 : (Cond.methodLink R_K 188 y_K_joinLines) ∈ tW := tw_in 276 (by decide +kernel) (by decide +kernel)
theorem tw_278 : (Cond.instanceMethod y_K_joinLines) ∈ tW := tw_in 278 (by decide +kernel) (by decide +kernel)
theorem tw_279 : (Cond.code y_K_joinLines prog_1_method_42_code 5 (some .boolean)) ∈ tW := tw_in 279 (by decide +kernel) (by decide +kernel)
theorem tw_280 : (Cond.methodLink R_K 195 y_K_rootOf) ∈ tW := tw_in 280 (by decide +kernel) (by decide +kernel)
theorem tw_281 : (Cond.static y_K_rootOf) ∈ tW := tw_in 281 (by decide +kernel) (by decide +kernel)
theorem tw_282 : (Cond.code y_K_rootOf prog_1_method_43_code 3 (some .int)) ∈ tW := tw_in 282 (by decide +kernel) (by decide +kernel)
theorem tw_283 : (Cond.methodLink R_K 198 y_K_addCrosswise) ∈ tW := tw_in 283 (by decide +kernel) (by decide +kernel)
theorem tw_285 : (Cond.instanceMethod y_K_addCrosswise) ∈ tW := tw_in 285 (by decide +kernel) (by decide +kernel)
theorem tw_286 : (Cond.code y_K_addCrosswise prog_1_method_44_code 7 none) ∈ tW := tw_in 286 (by decide +kernel) (by decide +kernel)
theorem tw_287 : (Cond.methodLink R_K 192 y_K_readLines) ∈ tW := tw_in 287 (by decide +kernel) (by decide +kernel)
theorem tw_289 : (Cond.instanceMethod y_K_readLines) ∈ tW := tw_in 289 (by decide +kernel) (by decide +kernel)
theorem tw_290 : (Cond.code y_K_readLines prog_1_method_45_code 3 (some .boolean)) ∈ tW := tw_in 290 (by decide +kernel) (by decide +kernel)
theorem tw_291 : (Cond.methodLink R_K 202 y_K_readLinesAt) ∈ tW := tw_in 291 (by decide +kernel) (by decide +kernel)
theorem tw_293 : (Cond.instanceMethod y_K_readLinesAt) ∈ tW := tw_in 293 (by decide +kernel) (by decide +kernel)
theorem tw_294 : (Cond.code y_K_readLinesAt prog_1_method_46_code 4 (some .boolean)) ∈ tW := tw_in 294 (by decide +kernel) (by decide +kernel)
theorem tw_295 : (Cond.methodLink R_K 148 y_K_isLess) ∈ tW := tw_in 295 (by decide +kernel) (by decide +kernel)
theorem tw_296 : (Cond.static y_K_isLess) ∈ tW := tw_in 296 (by decide +kernel) (by decide +kernel)
theorem tw_297 : (Cond.code y_K_isLess prog_1_method_47_code 3 (some .boolean)) ∈ tW := tw_in 297 (by decide +kernel) (by decide +kernel)
theorem tw_298 : (Cond.methodLink R_L 96 y_K_keep) ∈ tW := tw_in 298 (by decide +kernel) (by decide +kernel)
theorem tw_299 : (Cond.instanceMethod y_K_keep) ∈ tW := tw_in 299 (by decide +kernel) (by decide +kernel)
theorem tw_300 : (Cond.selects R_K y_K_keep y_K_keep) ∈ tW := tw_in 300 (by decide +kernel) (by decide +kernel)
theorem tw_301 : (Cond.code y_K_keep prog_1_method_18_code 1 (some .int)) ∈ tW := tw_in 301 (by decide +kernel) (by decide +kernel)
theorem tw_302 : (Cond.methodLink R_K 152 arraycopyName) ∈ tW := tw_in 302 (by decide +kernel) (by decide +kernel)
theorem tw_303 : (Cond.methodLink R_L 100 y_K_alike) ∈ tW := tw_in 303 (by decide +kernel) (by decide +kernel)
theorem tw_304 : (Cond.instanceMethod y_K_alike) ∈ tW := tw_in 304 (by decide +kernel) (by decide +kernel)
theorem tw_305 : (Cond.selects R_K y_K_alike y_K_alike) ∈ tW := tw_in 305 (by decide +kernel) (by decide +kernel)
theorem tw_306 : (Cond.code y_K_alike prog_1_method_19_code 3 (some .int)) ∈ tW := tw_in 306 (by decide +kernel) (by decide +kernel)
theorem tw_307 : (Cond.methodLink R_L 51 y_L_height) ∈ tW := tw_in 307 (by decide +kernel) (by decide +kernel)
theorem tw_308 : (Cond.static y_L_height) ∈ tW := tw_in 308 (by decide +kernel) (by decide +kernel)
theorem tw_311 : (Cond.methodLink R_L 7 y_K_height) ∈ tW := tw_in 311 (by decide +kernel) (by decide +kernel)
theorem tw_312 : (Cond.instanceMethod y_K_height) ∈ tW := tw_in 312 (by decide +kernel) (by decide +kernel)
theorem tw_313 : (Cond.selects R_K y_K_height y_K_height) ∈ tW := tw_in 313 (by decide +kernel) (by decide +kernel)
theorem tw_314 : (Cond.code y_K_height prog_1_method_9_code 4 (some .long)) ∈ tW := tw_in 314 (by decide +kernel) (by decide +kernel)
theorem tw_380 : (Cond.arrayClass FieldType.byte) ∈ tW := tw_in 380 (by decide +kernel) (by decide +kernel)
theorem tw_381 : (Cond.classLink R_L 16 R_M) ∈ tW := tw_in 381 (by decide +kernel) (by decide +kernel)
theorem tw_382 : (Cond.instantiable R_M 21) ∈ tW := tw_in 382 (by decide +kernel) (by decide +kernel)
theorem tw_383 : (Cond.methodLink R_L 18 y_M_init) ∈ tW := tw_in 383 (by decide +kernel) (by decide +kernel)
theorem tw_384 : (Cond.instanceMethod y_M_init) ∈ tW := tw_in 384 (by decide +kernel) (by decide +kernel)
theorem tw_385 : (Cond.code y_M_init prog_4_method_1_code 1 none) ∈ tW := tw_in 385 (by decide +kernel) (by decide +kernel)
theorem tw_386 : (Cond.methodLink R_M 1 objectInit) ∈ tW := tw_in 386 (by decide +kernel) (by decide +kernel)
theorem tw_387 : (Cond.fieldLink R_M 45 R_M "code" "I") ∈ tW := tw_in 387 (by decide +kernel) (by decide +kernel)
theorem tw_388 : (Cond.fieldLink R_M 7 R_M "d" "I") ∈ tW := tw_in 388 (by decide +kernel) (by decide +kernel)
theorem tw_389 : (Cond.fieldLink R_M 13 R_M "m" "[I") ∈ tW := tw_in 389 (by decide +kernel) (by decide +kernel)
theorem tw_390 : (Cond.fieldLink R_M 48 R_M "isKept" "Z") ∈ tW := tw_in 390 (by decide +kernel) (by decide +kernel)
theorem tw_391 : (Cond.fieldLink R_M 17 R_M "keptForm" "[I") ∈ tW := tw_in 391 (by decide +kernel) (by decide +kernel)
theorem tw_392 : (Cond.fieldLink R_M 20 R_M "table" "[J") ∈ tW := tw_in 392 (by decide +kernel) (by decide +kernel)
theorem tw_393 : (Cond.fieldLink R_M 58 R_M "rows" "I") ∈ tW := tw_in 393 (by decide +kernel) (by decide +kernel)
theorem tw_394 : (Cond.fieldLink R_M 24 R_M "work" "[J") ∈ tW := tw_in 394 (by decide +kernel) (by decide +kernel)
theorem tw_395 : (Cond.fieldLink R_M 76 R_M "above" "I") ∈ tW := tw_in 395 (by decide +kernel) (by decide +kernel)
theorem tw_396 : (Cond.fieldLink R_M 79 R_M "beneath" "I") ∈ tW := tw_in 396 (by decide +kernel) (by decide +kernel)
theorem tw_397 : (Cond.fieldLink R_M 27 R_M "planes" "[I") ∈ tW := tw_in 397 (by decide +kernel) (by decide +kernel)
theorem tw_398 : (Cond.fieldLink R_M 30 R_M "spaces" "[I") ∈ tW := tw_in 398 (by decide +kernel) (by decide +kernel)
theorem tw_399 : (Cond.fieldLink R_M 88 R_M "a0" "I") ∈ tW := tw_in 399 (by decide +kernel) (by decide +kernel)
theorem tw_400 : (Cond.fieldLink R_M 85 R_M "a1" "I") ∈ tW := tw_in 400 (by decide +kernel) (by decide +kernel)
theorem tw_401 : (Cond.fieldLink R_M 94 R_M "b0" "I") ∈ tW := tw_in 401 (by decide +kernel) (by decide +kernel)
theorem tw_402 : (Cond.fieldLink R_M 91 R_M "b1" "I") ∈ tW := tw_in 402 (by decide +kernel) (by decide +kernel)
theorem tw_403 : (Cond.fieldLink R_M 33 R_M "point" "[J") ∈ tW := tw_in 403 (by decide +kernel) (by decide +kernel)
theorem tw_404 : (Cond.fieldLink R_M 36 R_M "told" "[J") ∈ tW := tw_in 404 (by decide +kernel) (by decide +kernel)
theorem tw_405 : (Cond.fieldLink R_M 39 R_M "base" "[J") ∈ tW := tw_in 405 (by decide +kernel) (by decide +kernel)
theorem tw_406 : (Cond.fieldLink R_M 42 R_M "lines" "[J") ∈ tW := tw_in 406 (by decide +kernel) (by decide +kernel)
theorem tw_407 : (Cond.fieldLink R_M 156 R_M "lineMany" "I") ∈ tW := tw_in 407 (by decide +kernel) (by decide +kernel)
theorem tw_408 : (Cond.lays R_M R_M "code" "I") ∈ tW := tw_in 408 (by decide +kernel) (by decide +kernel)
theorem tw_410 : (Cond.lays R_M R_M "d" "I") ∈ tW := tw_in 410 (by decide +kernel) (by decide +kernel)
theorem tw_412 : (Cond.laysFinal R_M R_M "m" "[I") ∈ tW := tw_in 412 (by decide +kernel) (by decide +kernel)
theorem tw_414 : (Cond.lays R_M R_M "isKept" "Z") ∈ tW := tw_in 414 (by decide +kernel) (by decide +kernel)
theorem tw_416 : (Cond.laysFinal R_M R_M "keptForm" "[I") ∈ tW := tw_in 416 (by decide +kernel) (by decide +kernel)
theorem tw_418 : (Cond.laysFinal R_M R_M "table" "[J") ∈ tW := tw_in 418 (by decide +kernel) (by decide +kernel)
theorem tw_420 : (Cond.lays R_M R_M "rows" "I") ∈ tW := tw_in 420 (by decide +kernel) (by decide +kernel)
theorem tw_422 : (Cond.laysFinal R_M R_M "work" "[J") ∈ tW := tw_in 422 (by decide +kernel) (by decide +kernel)
theorem tw_424 : (Cond.lays R_M R_M "above" "I") ∈ tW := tw_in 424 (by decide +kernel) (by decide +kernel)
theorem tw_426 : (Cond.lays R_M R_M "beneath" "I") ∈ tW := tw_in 426 (by decide +kernel) (by decide +kernel)
theorem tw_428 : (Cond.laysFinal R_M R_M "planes" "[I") ∈ tW := tw_in 428 (by decide +kernel) (by decide +kernel)
theorem tw_430 : (Cond.laysFinal R_M R_M "spaces" "[I") ∈ tW := tw_in 430 (by decide +kernel) (by decide +kernel)
theorem tw_432 : (Cond.lays R_M R_M "a0" "I") ∈ tW := tw_in 432 (by decide +kernel) (by decide +kernel)
theorem tw_434 : (Cond.lays R_M R_M "a1" "I") ∈ tW := tw_in 434 (by decide +kernel) (by decide +kernel)
theorem tw_436 : (Cond.lays R_M R_M "b0" "I") ∈ tW := tw_in 436 (by decide +kernel) (by decide +kernel)
theorem tw_438 : (Cond.lays R_M R_M "b1" "I") ∈ tW := tw_in 438 (by decide +kernel) (by decide +kernel)
theorem tw_440 : (Cond.laysFinal R_M R_M "point" "[J") ∈ tW := tw_in 440 (by decide +kernel) (by decide +kernel)
theorem tw_442 : (Cond.laysFinal R_M R_M "told" "[J") ∈ tW := tw_in 442 (by decide +kernel) (by decide +kernel)
theorem tw_444 : (Cond.laysFinal R_M R_M "base" "[J") ∈ tW := tw_in 444 (by decide +kernel) (by decide +kernel)
theorem tw_446 : (Cond.laysFinal R_M R_M "lines" "[J") ∈ tW := tw_in 446 (by decide +kernel) (by decide +kernel)
theorem tw_448 : (Cond.lays R_M R_M "lineMany" "I") ∈ tW := tw_in 448 (by decide +kernel) (by decide +kernel)
theorem tw_451 : (Cond.arrayClass FieldType.int) ∈ tW := tw_in 451 (by decide +kernel) (by decide +kernel)
theorem tw_452 : (Cond.methodLink R_L 57 y_M_thrown) ∈ tW := tw_in 452 (by decide +kernel) (by decide +kernel)
theorem tw_453 : (Cond.instanceMethod y_M_thrown) ∈ tW := tw_in 453 (by decide +kernel) (by decide +kernel)
theorem tw_454 : (Cond.selects R_M y_M_thrown y_M_thrown) ∈ tW := tw_in 454 (by decide +kernel) (by decide +kernel)
theorem tw_455 : (Cond.code y_M_thrown prog_4_method_2_code 1 (some .int)) ∈ tW := tw_in 455 (by decide +kernel) (by decide +kernel)
theorem tw_456 : (Cond.methodLink R_L 23 y_M_dimension) ∈ tW := tw_in 456 (by decide +kernel) (by decide +kernel)
theorem tw_457 : (Cond.instanceMethod y_M_dimension) ∈ tW := tw_in 457 (by decide +kernel) (by decide +kernel)
theorem tw_458 : (Cond.selects R_M y_M_dimension y_M_dimension) ∈ tW := tw_in 458 (by decide +kernel) (by decide +kernel)
theorem tw_459 : (Cond.code y_M_dimension prog_4_method_4_code 4 (some .int)) ∈ tW := tw_in 459 (by decide +kernel) (by decide +kernel)
theorem tw_460 : (Cond.methodLink R_L 28 y_M_put) ∈ tW := tw_in 460 (by decide +kernel) (by decide +kernel)
theorem tw_461 : (Cond.instanceMethod y_M_put) ∈ tW := tw_in 461 (by decide +kernel) (by decide +kernel)
theorem tw_462 : (Cond.selects R_M y_M_put y_M_put) ∈ tW := tw_in 462 (by decide +kernel) (by decide +kernel)
theorem tw_463 : (Cond.code y_M_put prog_4_method_5_code 5 (some .long)) ∈ tW := tw_in 463 (by decide +kernel) (by decide +kernel)
theorem tw_464 : (Cond.methodLink R_M 52 y_M_in) ∈ tW := tw_in 464 (by decide +kernel) (by decide +kernel)
theorem tw_465 : (Cond.static y_M_in) ∈ tW := tw_in 465 (by decide +kernel) (by decide +kernel)
theorem tw_466 : (Cond.code y_M_in prog_4_method_3_code 4 (some .boolean)) ∈ tW := tw_in 466 (by decide +kernel) (by decide +kernel)
theorem tw_467 : (Cond.constantLong R_M 56 (lI (-1000000000000000000))) ∈ tW := tw_in 467 (by decide +kernel) (by decide +kernel)
theorem tw_468 : (Cond.methodLink R_L 33 y_M_kind) ∈ tW := tw_in 468 (by decide +kernel) (by decide +kernel)
theorem tw_469 : (Cond.instanceMethod y_M_kind) ∈ tW := tw_in 469 (by decide +kernel) (by decide +kernel)
theorem tw_470 : (Cond.selects R_M y_M_kind y_M_kind) ∈ tW := tw_in 470 (by decide +kernel) (by decide +kernel)
theorem tw_471 : (Cond.code y_M_kind prog_4_method_16_code 1 (some .int)) ∈ tW := tw_in 471 (by decide +kernel) (by decide +kernel)
theorem tw_472 : (Cond.methodLink R_M 111 y_M_ownKind) ∈ tW := tw_in 472 (by decide +kernel) (by decide +kernel)
theorem tw_474 : (Cond.instanceMethod y_M_ownKind) ∈ tW := tw_in 474 (by decide +kernel) (by decide +kernel)
theorem tw_475 : (Cond.code y_M_ownKind prog_4_method_15_code 1 (some .int)) ∈ tW := tw_in 475 (by decide +kernel) (by decide +kernel)
theorem tw_476 : (Cond.methodLink R_M 104 y_M_findAll) ∈ tW := tw_in 476 (by decide +kernel) (by decide +kernel)
theorem tw_478 : (Cond.instanceMethod y_M_findAll) ∈ tW := tw_in 478 (by decide +kernel) (by decide +kernel)
theorem tw_479 : (Cond.code y_M_findAll prog_4_method_14_code 1 none) ∈ tW := tw_in 479 (by decide +kernel) (by decide +kernel)
theorem tw_480 : (Cond.methodLink R_M 97 y_M_take) ∈ tW := tw_in 480 (by decide +kernel) (by decide +kernel)
theorem tw_482 : (Cond.instanceMethod y_M_take) ∈ tW := tw_in 482 (by decide +kernel) (by decide +kernel)
theorem tw_483 : (Cond.code y_M_take prog_4_method_6_code 5 none) ∈ tW := tw_in 483 (by decide +kernel) (by decide +kernel)
theorem tw_484 : (Cond.methodLink R_M 101 y_M_findSigns) ∈ tW := tw_in 484 (by decide +kernel) (by decide +kernel)
theorem tw_486 : (Cond.instanceMethod y_M_findSigns) ∈ tW := tw_in 486 (by decide +kernel) (by decide +kernel)
theorem tw_487 : (Cond.code y_M_findSigns prog_4_method_12_code 10 none) ∈ tW := tw_in 487 (by decide +kernel) (by decide +kernel)
theorem tw_488 : (Cond.methodLink R_M 82 y_M_sums) ∈ tW := tw_in 488 (by decide +kernel) (by decide +kernel)
theorem tw_490 : (Cond.instanceMethod y_M_sums) ∈ tW := tw_in 490 (by decide +kernel) (by decide +kernel)
theorem tw_491 : (Cond.code y_M_sums prog_4_method_11_code 5 (some .long)) ∈ tW := tw_in 491 (by decide +kernel) (by decide +kernel)
theorem tw_492 : (Cond.methodLink R_M 69 y_M_bitsOf) ∈ tW := tw_in 492 (by decide +kernel) (by decide +kernel)
theorem tw_493 : (Cond.static y_M_bitsOf) ∈ tW := tw_in 493 (by decide +kernel) (by decide +kernel)
theorem tw_494 : (Cond.code y_M_bitsOf prog_4_method_10_code 3 (some .int)) ∈ tW := tw_in 494 (by decide +kernel) (by decide +kernel)
theorem tw_495 : (Cond.methodLink R_M 73 y_M_minor) ∈ tW := tw_in 495 (by decide +kernel) (by decide +kernel)
theorem tw_497 : (Cond.instanceMethod y_M_minor) ∈ tW := tw_in 497 (by decide +kernel) (by decide +kernel)
theorem tw_498 : (Cond.code y_M_minor prog_4_method_7_code 6 (some .long)) ∈ tW := tw_in 498 (by decide +kernel) (by decide +kernel)
theorem tw_499 : (Cond.methodLink R_M 61 y_M_determinantOf) ∈ tW := tw_in 499 (by decide +kernel) (by decide +kernel)
theorem tw_501 : (Cond.instanceMethod y_M_determinantOf) ∈ tW := tw_in 501 (by decide +kernel) (by decide +kernel)
theorem tw_502 : (Cond.code y_M_determinantOf prog_4_method_8_code 10 (some .long)) ∈ tW := tw_in 502 (by decide +kernel) (by decide +kernel)
theorem tw_503 : (Cond.methodLink R_M 65 y_M_swapRows) ∈ tW := tw_in 503 (by decide +kernel) (by decide +kernel)
theorem tw_505 : (Cond.instanceMethod y_M_swapRows) ∈ tW := tw_in 505 (by decide +kernel) (by decide +kernel)
theorem tw_506 : (Cond.code y_M_swapRows prog_4_method_9_code 6 none) ∈ tW := tw_in 506 (by decide +kernel) (by decide +kernel)
theorem tw_507 : (Cond.methodLink R_M 107 y_M_kindOf) ∈ tW := tw_in 507 (by decide +kernel) (by decide +kernel)
theorem tw_509 : (Cond.instanceMethod y_M_kindOf) ∈ tW := tw_in 509 (by decide +kernel) (by decide +kernel)
theorem tw_510 : (Cond.code y_M_kindOf prog_4_method_13_code 7 (some .int)) ∈ tW := tw_in 510 (by decide +kernel) (by decide +kernel)
theorem tw_511 : (Cond.methodLink R_L 37 y_M_signs) ∈ tW := tw_in 511 (by decide +kernel) (by decide +kernel)
theorem tw_512 : (Cond.instanceMethod y_M_signs) ∈ tW := tw_in 512 (by decide +kernel) (by decide +kernel)
theorem tw_513 : (Cond.selects R_M y_M_signs y_M_signs) ∈ tW := tw_in 513 (by decide +kernel) (by decide +kernel)
theorem tw_514 : (Cond.code y_M_signs prog_4_method_17_code 2 (some .int)) ∈ tW := tw_in 514 (by decide +kernel) (by decide +kernel)
theorem tw_515 : (Cond.methodLink R_L 41 y_M_determinant) ∈ tW := tw_in 515 (by decide +kernel) (by decide +kernel)
theorem tw_516 : (Cond.instanceMethod y_M_determinant) ∈ tW := tw_in 516 (by decide +kernel) (by decide +kernel)
theorem tw_517 : (Cond.selects R_M y_M_determinant y_M_determinant) ∈ tW := tw_in 517 (by decide +kernel) (by decide +kernel)
theorem tw_518 : (Cond.code y_M_determinant prog_4_method_18_code 2 (some .long)) ∈ tW := tw_in 518 (by decide +kernel) (by decide +kernel)
theorem tw_519 : (Cond.methodLink R_L 45 y_M_middles) ∈ tW := tw_in 519 (by decide +kernel) (by decide +kernel)
theorem tw_520 : (Cond.instanceMethod y_M_middles) ∈ tW := tw_in 520 (by decide +kernel) (by decide +kernel)
theorem tw_521 : (Cond.selects R_M y_M_middles y_M_middles) ∈ tW := tw_in 521 (by decide +kernel) (by decide +kernel)
theorem tw_522 : (Cond.code y_M_middles prog_4_method_20_code 2 (some .int)) ∈ tW := tw_in 522 (by decide +kernel) (by decide +kernel)
theorem tw_523 : (Cond.methodLink R_M 115 y_M_rank) ∈ tW := tw_in 523 (by decide +kernel) (by decide +kernel)
theorem tw_525 : (Cond.instanceMethod y_M_rank) ∈ tW := tw_in 525 (by decide +kernel) (by decide +kernel)
theorem tw_526 : (Cond.code y_M_rank prog_4_method_19_code 10 (some .int)) ∈ tW := tw_in 526 (by decide +kernel) (by decide +kernel)
theorem tw_527 : (Cond.methodLink R_L 50 y_M_middle) ∈ tW := tw_in 527 (by decide +kernel) (by decide +kernel)
theorem tw_528 : (Cond.instanceMethod y_M_middle) ∈ tW := tw_in 528 (by decide +kernel) (by decide +kernel)
theorem tw_529 : (Cond.selects R_M y_M_middle y_M_middle) ∈ tW := tw_in 529 (by decide +kernel) (by decide +kernel)
theorem tw_530 : (Cond.code y_M_middle prog_4_method_23_code 6 (some .long)) ∈ tW := tw_in 530 (by decide +kernel) (by decide +kernel)
theorem tw_531 : (Cond.methodLink R_M 122 y_M_part) ∈ tW := tw_in 531 (by decide +kernel) (by decide +kernel)
theorem tw_532 : (Cond.static y_M_part) ∈ tW := tw_in 532 (by decide +kernel) (by decide +kernel)
theorem tw_533 : (Cond.code y_M_part prog_4_method_22_code 7 (some .long)) ∈ tW := tw_in 533 (by decide +kernel) (by decide +kernel)
theorem tw_534 : (Cond.methodLink R_M 118 y_M_divisor) ∈ tW := tw_in 534 (by decide +kernel) (by decide +kernel)
theorem tw_535 : (Cond.static y_M_divisor) ∈ tW := tw_in 535 (by decide +kernel) (by decide +kernel)
theorem tw_536 : (Cond.code y_M_divisor prog_4_method_21_code 10 (some .long)) ∈ tW := tw_in 536 (by decide +kernel) (by decide +kernel)
theorem tw_537 : (Cond.methodLink R_L 56 y_M_height) ∈ tW := tw_in 537 (by decide +kernel) (by decide +kernel)
theorem tw_538 : (Cond.instanceMethod y_M_height) ∈ tW := tw_in 538 (by decide +kernel) (by decide +kernel)
theorem tw_539 : (Cond.selects R_M y_M_height y_M_height) ∈ tW := tw_in 539 (by decide +kernel) (by decide +kernel)
theorem tw_540 : (Cond.code y_M_height prog_4_method_24_code 4 (some .long)) ∈ tW := tw_in 540 (by decide +kernel) (by decide +kernel)
theorem tw_541 : (Cond.methodLink R_L 64 y_M_below) ∈ tW := tw_in 541 (by decide +kernel) (by decide +kernel)
theorem tw_542 : (Cond.instanceMethod y_M_below) ∈ tW := tw_in 542 (by decide +kernel) (by decide +kernel)
theorem tw_543 : (Cond.selects R_M y_M_below y_M_below) ∈ tW := tw_in 543 (by decide +kernel) (by decide +kernel)
theorem tw_544 : (Cond.code y_M_below prog_4_method_25_code 5 (some .int)) ∈ tW := tw_in 544 (by decide +kernel) (by decide +kernel)
theorem tw_545 : (Cond.methodLink R_L 68 y_M_unlike) ∈ tW := tw_in 545 (by decide +kernel) (by decide +kernel)
theorem tw_546 : (Cond.instanceMethod y_M_unlike) ∈ tW := tw_in 546 (by decide +kernel) (by decide +kernel)
theorem tw_547 : (Cond.selects R_M y_M_unlike y_M_unlike) ∈ tW := tw_in 547 (by decide +kernel) (by decide +kernel)
theorem tw_548 : (Cond.code y_M_unlike prog_4_method_26_code 10 (some .int)) ∈ tW := tw_in 548 (by decide +kernel) (by decide +kernel)
theorem tw_549 : (Cond.constantLong R_M 126 (lI 18)) ∈ tW := tw_in 549 (by decide +kernel) (by decide +kernel)
theorem tw_550 : (Cond.constantLong R_M 128 (lI 4)) ∈ tW := tw_in 550 (by decide +kernel) (by decide +kernel)
theorem tw_551 : (Cond.constantLong R_M 130 (lI 27)) ∈ tW := tw_in 551 (by decide +kernel) (by decide +kernel)
theorem tw_552 : (Cond.methodLink R_L 73 y_M_at) ∈ tW := tw_in 552 (by decide +kernel) (by decide +kernel)
theorem tw_553 : (Cond.instanceMethod y_M_at) ∈ tW := tw_in 553 (by decide +kernel) (by decide +kernel)
theorem tw_554 : (Cond.selects R_M y_M_at y_M_at) ∈ tW := tw_in 554 (by decide +kernel) (by decide +kernel)
theorem tw_555 : (Cond.code y_M_at prog_4_method_29_code 8 (some .int)) ∈ tW := tw_in 555 (by decide +kernel) (by decide +kernel)
theorem tw_556 : (Cond.methodLink R_M 132 y_M_isPoint) ∈ tW := tw_in 556 (by decide +kernel) (by decide +kernel)
theorem tw_558 : (Cond.instanceMethod y_M_isPoint) ∈ tW := tw_in 558 (by decide +kernel) (by decide +kernel)
theorem tw_559 : (Cond.code y_M_isPoint prog_4_method_27_code 6 (some .boolean)) ∈ tW := tw_in 559 (by decide +kernel) (by decide +kernel)
theorem tw_560 : (Cond.methodLink R_M 136 y_M_polarAt) ∈ tW := tw_in 560 (by decide +kernel) (by decide +kernel)
theorem tw_562 : (Cond.instanceMethod y_M_polarAt) ∈ tW := tw_in 562 (by decide +kernel) (by decide +kernel)
theorem tw_563 : (Cond.code y_M_polarAt prog_4_method_28_code 5 (some .long)) ∈ tW := tw_in 563 (by decide +kernel) (by decide +kernel)
theorem tw_564 : (Cond.methodLink R_L 78 y_M_polar) ∈ tW := tw_in 564 (by decide +kernel) (by decide +kernel)
theorem tw_565 : (Cond.instanceMethod y_M_polar) ∈ tW := tw_in 565 (by decide +kernel) (by decide +kernel)
theorem tw_566 : (Cond.selects R_M y_M_polar y_M_polar) ∈ tW := tw_in 566 (by decide +kernel) (by decide +kernel)
theorem tw_567 : (Cond.code y_M_polar prog_4_method_31_code 7 (some .long)) ∈ tW := tw_in 567 (by decide +kernel) (by decide +kernel)
theorem tw_568 : (Cond.methodLink R_M 141 y_M_without) ∈ tW := tw_in 568 (by decide +kernel) (by decide +kernel)
theorem tw_570 : (Cond.instanceMethod y_M_without) ∈ tW := tw_in 570 (by decide +kernel) (by decide +kernel)
theorem tw_571 : (Cond.code y_M_without prog_4_method_30_code 8 (some .long)) ∈ tW := tw_in 571 (by decide +kernel) (by decide +kernel)
theorem tw_572 : (Cond.constantLong R_M 139 (lI (-1))) ∈ tW := tw_in 572 (by decide +kernel) (by decide +kernel)
theorem tw_573 : (Cond.methodLink R_L 82 y_M_touches) ∈ tW := tw_in 573 (by decide +kernel) (by decide +kernel)
theorem tw_574 : (Cond.instanceMethod y_M_touches) ∈ tW := tw_in 574 (by decide +kernel) (by decide +kernel)
theorem tw_575 : (Cond.selects R_M y_M_touches y_M_touches) ∈ tW := tw_in 575 (by decide +kernel) (by decide +kernel)
theorem tw_576 : (Cond.code y_M_touches prog_4_method_32_code 9 (some .int)) ∈ tW := tw_in 576 (by decide +kernel) (by decide +kernel)
theorem tw_577 : (Cond.methodLink R_L 86 y_M_section) ∈ tW := tw_in 577 (by decide +kernel) (by decide +kernel)
theorem tw_578 : (Cond.instanceMethod y_M_section) ∈ tW := tw_in 578 (by decide +kernel) (by decide +kernel)
theorem tw_579 : (Cond.selects R_M y_M_section y_M_section) ∈ tW := tw_in 579 (by decide +kernel) (by decide +kernel)
theorem tw_580 : (Cond.code y_M_section prog_4_method_35_code 5 (some .int)) ∈ tW := tw_in 580 (by decide +kernel) (by decide +kernel)
theorem tw_581 : (Cond.methodLink R_M 145 y_M_layBase) ∈ tW := tw_in 581 (by decide +kernel) (by decide +kernel)
theorem tw_583 : (Cond.instanceMethod y_M_layBase) ∈ tW := tw_in 583 (by decide +kernel) (by decide +kernel)
theorem tw_584 : (Cond.code y_M_layBase prog_4_method_34_code 9 none) ∈ tW := tw_in 584 (by decide +kernel) (by decide +kernel)
theorem tw_585 : (Cond.methodLink R_M 149 y_M_layCut) ∈ tW := tw_in 585 (by decide +kernel) (by decide +kernel)
theorem tw_587 : (Cond.instanceMethod y_M_layCut) ∈ tW := tw_in 587 (by decide +kernel) (by decide +kernel)
theorem tw_588 : (Cond.code y_M_layCut prog_4_method_36_code 4 none) ∈ tW := tw_in 588 (by decide +kernel) (by decide +kernel)
theorem tw_589 : (Cond.methodLink R_M 153 y_M_formOf) ∈ tW := tw_in 589 (by decide +kernel) (by decide +kernel)
theorem tw_591 : (Cond.instanceMethod y_M_formOf) ∈ tW := tw_in 591 (by decide +kernel) (by decide +kernel)
theorem tw_592 : (Cond.code y_M_formOf prog_4_method_33_code 7 (some .long)) ∈ tW := tw_in 592 (by decide +kernel) (by decide +kernel)
theorem tw_593 : (Cond.methodLink R_L 91 y_M_meets) ∈ tW := tw_in 593 (by decide +kernel) (by decide +kernel)
theorem tw_594 : (Cond.instanceMethod y_M_meets) ∈ tW := tw_in 594 (by decide +kernel) (by decide +kernel)
theorem tw_595 : (Cond.selects R_M y_M_meets y_M_meets) ∈ tW := tw_in 595 (by decide +kernel) (by decide +kernel)
theorem tw_596 : (Cond.code y_M_meets prog_4_method_37_code 16 (some .int)) ∈ tW := tw_in 596 (by decide +kernel) (by decide +kernel)
theorem tw_597 : (Cond.methodLink R_L 95 y_M_line) ∈ tW := tw_in 597 (by decide +kernel) (by decide +kernel)
theorem tw_598 : (Cond.instanceMethod y_M_line) ∈ tW := tw_in 598 (by decide +kernel) (by decide +kernel)
theorem tw_599 : (Cond.selects R_M y_M_line y_M_line) ∈ tW := tw_in 599 (by decide +kernel) (by decide +kernel)
theorem tw_600 : (Cond.code y_M_line prog_4_method_43_code 4 (some .long)) ∈ tW := tw_in 600 (by decide +kernel) (by decide +kernel)
theorem tw_601 : (Cond.methodLink R_M 172 y_M_findLines) ∈ tW := tw_in 601 (by decide +kernel) (by decide +kernel)
theorem tw_603 : (Cond.instanceMethod y_M_findLines) ∈ tW := tw_in 603 (by decide +kernel) (by decide +kernel)
theorem tw_604 : (Cond.code y_M_findLines prog_4_method_41_code 3 none) ∈ tW := tw_in 604 (by decide +kernel) (by decide +kernel)
theorem tw_605 : (Cond.constantLong R_M 167 (lI 2)) ∈ tW := tw_in 605 (by decide +kernel) (by decide +kernel)
theorem tw_606 : (Cond.methodLink R_M 163 y_M_setLine) ∈ tW := tw_in 606 (by decide +kernel) (by decide +kernel)
theorem tw_608 : (Cond.instanceMethod y_M_setLine) ∈ tW := tw_in 608 (by decide +kernel) (by decide +kernel)
theorem tw_609 : (Cond.code y_M_setLine prog_4_method_39_code 9 none) ∈ tW := tw_in 609 (by decide +kernel) (by decide +kernel)
theorem tw_610 : (Cond.methodLink R_M 169 y_M_findTwo) ∈ tW := tw_in 610 (by decide +kernel) (by decide +kernel)
theorem tw_612 : (Cond.instanceMethod y_M_findTwo) ∈ tW := tw_in 612 (by decide +kernel) (by decide +kernel)
theorem tw_613 : (Cond.code y_M_findTwo prog_4_method_40_code 14 none) ∈ tW := tw_in 613 (by decide +kernel) (by decide +kernel)
theorem tw_614 : (Cond.methodLink R_M 159 y_M_root) ∈ tW := tw_in 614 (by decide +kernel) (by decide +kernel)
theorem tw_615 : (Cond.static y_M_root) ∈ tW := tw_in 615 (by decide +kernel) (by decide +kernel)
theorem tw_616 : (Cond.code y_M_root prog_4_method_38_code 4 (some .long)) ∈ tW := tw_in 616 (by decide +kernel) (by decide +kernel)
theorem tw_617 : (Cond.methodLink R_M 175 y_M_isSecondFirst) ∈ tW := tw_in 617 (by decide +kernel) (by decide +kernel)
theorem tw_619 : (Cond.instanceMethod y_M_isSecondFirst) ∈ tW := tw_in 619 (by decide +kernel) (by decide +kernel)
theorem tw_620 : (Cond.code y_M_isSecondFirst prog_4_method_42_code 2 (some .boolean)) ∈ tW := tw_in 620 (by decide +kernel) (by decide +kernel)
theorem tw_621 : (Cond.methodLink R_L 99 y_M_keep) ∈ tW := tw_in 621 (by decide +kernel) (by decide +kernel)
theorem tw_622 : (Cond.instanceMethod y_M_keep) ∈ tW := tw_in 622 (by decide +kernel) (by decide +kernel)
theorem tw_623 : (Cond.selects R_M y_M_keep y_M_keep) ∈ tW := tw_in 623 (by decide +kernel) (by decide +kernel)
theorem tw_624 : (Cond.code y_M_keep prog_4_method_44_code 2 (some .int)) ∈ tW := tw_in 624 (by decide +kernel) (by decide +kernel)
theorem tw_625 : (Cond.methodLink R_L 103 y_M_alike) ∈ tW := tw_in 625 (by decide +kernel) (by decide +kernel)
theorem tw_626 : (Cond.instanceMethod y_M_alike) ∈ tW := tw_in 626 (by decide +kernel) (by decide +kernel)
theorem tw_627 : (Cond.selects R_M y_M_alike y_M_alike) ∈ tW := tw_in 627 (by decide +kernel) (by decide +kernel)
theorem tw_628 : (Cond.code y_M_alike prog_4_method_45_code 6 (some .int)) ∈ tW := tw_in 628 (by decide +kernel) (by decide +kernel)
theorem tws_0 : (Cond.selects R_K y_K_isNoPlace y_K_isNoPlace) ∈ tW := tw_sel 0 (by decide +kernel) (by decide +kernel)
theorem tws_1 : (Cond.selects R_K y_K_kindOf y_K_kindOf) ∈ tW := tw_sel 1 (by decide +kernel) (by decide +kernel)
theorem tws_2 : (Cond.selects R_T y_T_expand y_T_expand) ∈ tW := tw_sel 2 (by decide +kernel) (by decide +kernel)
theorem tws_3 : (Cond.selects R_T y_T_multiply y_T_multiply) ∈ tW := tw_sel 3 (by decide +kernel) (by decide +kernel)
theorem tws_4 : (Cond.selects R_T y_T_diagonal y_T_diagonal) ∈ tW := tw_sel 4 (by decide +kernel) (by decide +kernel)
theorem tws_5 : (Cond.selects R_K y_K_takePoint y_K_takePoint) ∈ tW := tw_sel 5 (by decide +kernel) (by decide +kernel)
theorem tws_6 : (Cond.selects R_K y_K_setRow y_K_setRow) ∈ tW := tw_sel 6 (by decide +kernel) (by decide +kernel)
theorem tws_7 : (Cond.selects R_K y_K_formOf y_K_formOf) ∈ tW := tw_sel 7 (by decide +kernel) (by decide +kernel)
theorem tws_8 : (Cond.selects R_K y_K_rowTimes y_K_rowTimes) ∈ tW := tw_sel 8 (by decide +kernel) (by decide +kernel)
theorem tws_9 : (Cond.selects R_K y_K_cutInto y_K_cutInto) ∈ tW := tw_sel 9 (by decide +kernel) (by decide +kernel)
theorem tws_10 : (Cond.selects R_K y_K_cutCell y_K_cutCell) ∈ tW := tw_sel 10 (by decide +kernel) (by decide +kernel)
theorem tws_11 : (Cond.selects R_K y_K_takeLines y_K_takeLines) ∈ tW := tw_sel 11 (by decide +kernel) (by decide +kernel)
theorem tws_12 : (Cond.selects R_K y_K_takeFormRow y_K_takeFormRow) ∈ tW := tw_sel 12 (by decide +kernel) (by decide +kernel)
theorem tws_13 : (Cond.selects R_K y_K_joinLines y_K_joinLines) ∈ tW := tw_sel 13 (by decide +kernel) (by decide +kernel)
theorem tws_14 : (Cond.selects R_K y_K_addCrosswise y_K_addCrosswise) ∈ tW := tw_sel 14 (by decide +kernel) (by decide +kernel)
theorem tws_15 : (Cond.selects R_K y_K_readLines y_K_readLines) ∈ tW := tw_sel 15 (by decide +kernel) (by decide +kernel)
theorem tws_16 : (Cond.selects R_K y_K_readLinesAt y_K_readLinesAt) ∈ tW := tw_sel 16 (by decide +kernel) (by decide +kernel)
theorem tws_17 : (Cond.selects R_M y_M_ownKind y_M_ownKind) ∈ tW := tw_sel 18 (by decide +kernel) (by decide +kernel)
theorem tws_18 : (Cond.selects R_M y_M_findAll y_M_findAll) ∈ tW := tw_sel 19 (by decide +kernel) (by decide +kernel)
theorem tws_19 : (Cond.selects R_M y_M_take y_M_take) ∈ tW := tw_sel 20 (by decide +kernel) (by decide +kernel)
theorem tws_20 : (Cond.selects R_M y_M_findSigns y_M_findSigns) ∈ tW := tw_sel 21 (by decide +kernel) (by decide +kernel)
theorem tws_21 : (Cond.selects R_M y_M_sums y_M_sums) ∈ tW := tw_sel 22 (by decide +kernel) (by decide +kernel)
theorem tws_22 : (Cond.selects R_M y_M_minor y_M_minor) ∈ tW := tw_sel 23 (by decide +kernel) (by decide +kernel)
theorem tws_23 : (Cond.selects R_M y_M_determinantOf y_M_determinantOf) ∈ tW := tw_sel 24 (by decide +kernel) (by decide +kernel)
theorem tws_24 : (Cond.selects R_M y_M_swapRows y_M_swapRows) ∈ tW := tw_sel 25 (by decide +kernel) (by decide +kernel)
theorem tws_25 : (Cond.selects R_M y_M_kindOf y_M_kindOf) ∈ tW := tw_sel 26 (by decide +kernel) (by decide +kernel)
theorem tws_26 : (Cond.selects R_M y_M_rank y_M_rank) ∈ tW := tw_sel 27 (by decide +kernel) (by decide +kernel)
theorem tws_27 : (Cond.selects R_M y_M_isPoint y_M_isPoint) ∈ tW := tw_sel 28 (by decide +kernel) (by decide +kernel)
theorem tws_28 : (Cond.selects R_M y_M_polarAt y_M_polarAt) ∈ tW := tw_sel 29 (by decide +kernel) (by decide +kernel)
theorem tws_29 : (Cond.selects R_M y_M_without y_M_without) ∈ tW := tw_sel 30 (by decide +kernel) (by decide +kernel)
theorem tws_30 : (Cond.selects R_M y_M_layBase y_M_layBase) ∈ tW := tw_sel 31 (by decide +kernel) (by decide +kernel)
theorem tws_31 : (Cond.selects R_M y_M_layCut y_M_layCut) ∈ tW := tw_sel 32 (by decide +kernel) (by decide +kernel)
theorem tws_32 : (Cond.selects R_M y_M_formOf y_M_formOf) ∈ tW := tw_sel 33 (by decide +kernel) (by decide +kernel)
theorem tws_33 : (Cond.selects R_M y_M_findLines y_M_findLines) ∈ tW := tw_sel 34 (by decide +kernel) (by decide +kernel)
theorem tws_34 : (Cond.selects R_M y_M_setLine y_M_setLine) ∈ tW := tw_sel 35 (by decide +kernel) (by decide +kernel)
theorem tws_35 : (Cond.selects R_M y_M_findTwo y_M_findTwo) ∈ tW := tw_sel 36 (by decide +kernel) (by decide +kernel)
theorem tws_36 : (Cond.selects R_M y_M_isSecondFirst y_M_isSecondFirst) ∈ tW := tw_sel 37 (by decide +kernel) (by decide +kernel)
theorem iw_T : ∀ w ∈ u_ws R_T F_T 5, w ∈ tW := by
  intro w hw
  obtain ⟨k, hk, rfl⟩ := List.mem_map.mp hw
  have hk := List.mem_range.mp hk
  match k, hk with
  | 0, _ => exact tw_30
  | 1, _ => exact tw_32
  | 2, _ => exact tw_34
  | 3, _ => exact tw_36
  | 4, _ => exact tw_38
  | n + 5, h => exact absurd h (by omega)
theorem iw_K : ∀ w ∈ u_ws R_K F_K 8, w ∈ tW := by
  intro w hw
  obtain ⟨k, hk, rfl⟩ := List.mem_map.mp hw
  have hk := List.mem_range.mp hk
  match k, hk with
  | 0, _ => exact tw_50
  | 1, _ => exact tw_52
  | 2, _ => exact tw_54
  | 3, _ => exact tw_56
  | 4, _ => exact tw_58
  | 5, _ => exact tw_60
  | 6, _ => exact tw_62
  | 7, _ => exact tw_64
  | n + 8, h => exact absurd h (by omega)
theorem iw_M : ∀ w ∈ u_ws R_M F_M 21, w ∈ tW := by
  intro w hw
  obtain ⟨k, hk, rfl⟩ := List.mem_map.mp hw
  have hk := List.mem_range.mp hk
  match k, hk with
  | 0, _ => exact tw_408
  | 1, _ => exact tw_410
  | 2, _ => exact tw_412
  | 3, _ => exact tw_414
  | 4, _ => exact tw_416
  | 5, _ => exact tw_418
  | 6, _ => exact tw_420
  | 7, _ => exact tw_422
  | 8, _ => exact tw_424
  | 9, _ => exact tw_426
  | 10, _ => exact tw_428
  | 11, _ => exact tw_430
  | 12, _ => exact tw_432
  | 13, _ => exact tw_434
  | 14, _ => exact tw_436
  | 15, _ => exact tw_438
  | 16, _ => exact tw_440
  | 17, _ => exact tw_442
  | 18, _ => exact tw_444
  | 19, _ => exact tw_446
  | 20, _ => exact tw_448
  | n + 21, h => exact absurd h (by omega)
end
section
/-! decode rows of java/util/Arrays (wip/gen_names.py) -/
theorem d_A_fill_0 : decode b_A_fill 0 = .ok (.iconst 0, 1) := by decide +kernel
theorem d_A_fill_1 : decode b_A_fill 1 = .ok (.istore_n 3, 1) := by decide +kernel
theorem d_A_fill_2 : decode b_A_fill 2 = .ok (.aload_n 0, 1) := by decide +kernel
theorem d_A_fill_3 : decode b_A_fill 3 = .ok (.arraylength, 1) := by decide +kernel
theorem d_A_fill_4 : decode b_A_fill 4 = .ok (.istore 4, 2) := by decide +kernel
theorem d_A_fill_6 : decode b_A_fill 6 = .ok (.iload_n 3, 1) := by decide +kernel
theorem d_A_fill_7 : decode b_A_fill 7 = .ok (.iload 4, 2) := by decide +kernel
theorem d_A_fill_9 : decode b_A_fill 9 = .ok (.if_icmp .ge 13, 3) := by decide +kernel
theorem d_A_fill_12 : decode b_A_fill 12 = .ok (.aload_n 0, 1) := by decide +kernel
theorem d_A_fill_13 : decode b_A_fill 13 = .ok (.iload_n 3, 1) := by decide +kernel
theorem d_A_fill_14 : decode b_A_fill 14 = .ok (.lload_n 1, 1) := by decide +kernel
theorem d_A_fill_15 : decode b_A_fill 15 = .ok (.lastore, 1) := by decide +kernel
theorem d_A_fill_16 : decode b_A_fill 16 = .ok (.iinc 3 1, 3) := by decide +kernel
theorem d_A_fill_19 : decode b_A_fill 19 = .ok (.goto (-13), 3) := by decide +kernel
theorem d_A_fill_22 : decode b_A_fill 22 = .ok (.return_, 1) := by decide +kernel
end
section
/-! decode rows of ConicKinds (wip/gen_names.py) -/
theorem d_K_init_0 : decode b_K_init 0 = .ok (.aload_n 0, 1) := by decide +kernel
theorem d_K_init_1 : decode b_K_init 1 = .ok (.invokespecial 1, 3) := by decide +kernel
theorem d_K_init_4 : decode b_K_init 4 = .ok (.aload_n 0, 1) := by decide +kernel
theorem d_K_init_5 : decode b_K_init 5 = .ok (.iconst 2, 1) := by decide +kernel
theorem d_K_init_6 : decode b_K_init 6 = .ok (.putfield 7, 3) := by decide +kernel
theorem d_K_init_9 : decode b_K_init 9 = .ok (.aload_n 0, 1) := by decide +kernel
theorem d_K_init_10 : decode b_K_init 10 = .ok (.iconst 0, 1) := by decide +kernel
theorem d_K_init_11 : decode b_K_init 11 = .ok (.putfield 13, 3) := by decide +kernel
theorem d_K_init_14 : decode b_K_init 14 = .ok (.aload_n 0, 1) := by decide +kernel
theorem d_K_init_15 : decode b_K_init 15 = .ok (.bipush 16, 2) := by decide +kernel
theorem d_K_init_17 : decode b_K_init 17 = .ok (.newarray .long, 2) := by decide +kernel
theorem d_K_init_19 : decode b_K_init 19 = .ok (.putfield 17, 3) := by decide +kernel
theorem d_K_init_22 : decode b_K_init 22 = .ok (.aload_n 0, 1) := by decide +kernel
theorem d_K_init_23 : decode b_K_init 23 = .ok (.bipush 16, 2) := by decide +kernel
theorem d_K_init_25 : decode b_K_init 25 = .ok (.newarray .long, 2) := by decide +kernel
theorem d_K_init_27 : decode b_K_init 27 = .ok (.putfield 21, 3) := by decide +kernel
theorem d_K_init_30 : decode b_K_init 30 = .ok (.aload_n 0, 1) := by decide +kernel
theorem d_K_init_31 : decode b_K_init 31 = .ok (.new 24, 3) := by decide +kernel
theorem d_K_init_34 : decode b_K_init 34 = .ok (.dup, 1) := by decide +kernel
theorem d_K_init_35 : decode b_K_init 35 = .ok (.invokespecial 26, 3) := by decide +kernel
theorem d_K_init_38 : decode b_K_init 38 = .ok (.putfield 27, 3) := by decide +kernel
theorem d_K_init_41 : decode b_K_init 41 = .ok (.aload_n 0, 1) := by decide +kernel
theorem d_K_init_42 : decode b_K_init 42 = .ok (.bipush 16, 2) := by decide +kernel
theorem d_K_init_44 : decode b_K_init 44 = .ok (.newarray .long, 2) := by decide +kernel
theorem d_K_init_46 : decode b_K_init 46 = .ok (.putfield 31, 3) := by decide +kernel
theorem d_K_init_49 : decode b_K_init 49 = .ok (.aload_n 0, 1) := by decide +kernel
theorem d_K_init_50 : decode b_K_init 50 = .ok (.iconst 4, 1) := by decide +kernel
theorem d_K_init_51 : decode b_K_init 51 = .ok (.newarray .long, 2) := by decide +kernel
theorem d_K_init_53 : decode b_K_init 53 = .ok (.putfield 34, 3) := by decide +kernel
theorem d_K_init_56 : decode b_K_init 56 = .ok (.aload_n 0, 1) := by decide +kernel
theorem d_K_init_57 : decode b_K_init 57 = .ok (.iconst 4, 1) := by decide +kernel
theorem d_K_init_58 : decode b_K_init 58 = .ok (.newarray .long, 2) := by decide +kernel
theorem d_K_init_60 : decode b_K_init 60 = .ok (.putfield 37, 3) := by decide +kernel
theorem d_K_init_63 : decode b_K_init 63 = .ok (.return_, 1) := by decide +kernel
theorem d_K_dimension_0 : decode b_K_dimension 0 = .ok (.iload_n 1, 1) := by decide +kernel
theorem d_K_dimension_1 : decode b_K_dimension 1 = .ok (.iconst 2, 1) := by decide +kernel
theorem d_K_dimension_2 : decode b_K_dimension 2 = .ok (.if_icmp .eq 11, 3) := by decide +kernel
theorem d_K_dimension_5 : decode b_K_dimension 5 = .ok (.iload_n 1, 1) := by decide +kernel
theorem d_K_dimension_6 : decode b_K_dimension 6 = .ok (.iconst 3, 1) := by decide +kernel
theorem d_K_dimension_7 : decode b_K_dimension 7 = .ok (.if_icmp .eq 6, 3) := by decide +kernel
theorem d_K_dimension_10 : decode b_K_dimension 10 = .ok (.bipush (-2), 2) := by decide +kernel
theorem d_K_dimension_12 : decode b_K_dimension 12 = .ok (.ireturn, 1) := by decide +kernel
theorem d_K_dimension_13 : decode b_K_dimension 13 = .ok (.aload_n 0, 1) := by decide +kernel
theorem d_K_dimension_14 : decode b_K_dimension 14 = .ok (.getfield 7, 3) := by decide +kernel
theorem d_K_dimension_17 : decode b_K_dimension 17 = .ok (.istore_n 2, 1) := by decide +kernel
theorem d_K_dimension_18 : decode b_K_dimension 18 = .ok (.aload_n 0, 1) := by decide +kernel
theorem d_K_dimension_19 : decode b_K_dimension 19 = .ok (.iload_n 1, 1) := by decide +kernel
theorem d_K_dimension_20 : decode b_K_dimension 20 = .ok (.putfield 7, 3) := by decide +kernel
theorem d_K_dimension_23 : decode b_K_dimension 23 = .ok (.aload_n 0, 1) := by decide +kernel
theorem d_K_dimension_24 : decode b_K_dimension 24 = .ok (.iconst 0, 1) := by decide +kernel
theorem d_K_dimension_25 : decode b_K_dimension 25 = .ok (.putfield 13, 3) := by decide +kernel
theorem d_K_dimension_28 : decode b_K_dimension 28 = .ok (.aload_n 0, 1) := by decide +kernel
theorem d_K_dimension_29 : decode b_K_dimension 29 = .ok (.getfield 17, 3) := by decide +kernel
theorem d_K_dimension_32 : decode b_K_dimension 32 = .ok (.lconst 0, 1) := by decide +kernel
theorem d_K_dimension_33 : decode b_K_dimension 33 = .ok (.invokestatic 40, 3) := by decide +kernel
theorem d_K_dimension_36 : decode b_K_dimension 36 = .ok (.iload_n 2, 1) := by decide +kernel
theorem d_K_dimension_37 : decode b_K_dimension 37 = .ok (.ireturn, 1) := by decide +kernel
theorem d_K_put_0 : decode b_K_put 0 = .ok (.aload_n 0, 1) := by decide +kernel
theorem d_K_put_1 : decode b_K_put 1 = .ok (.iload_n 1, 1) := by decide +kernel
theorem d_K_put_2 : decode b_K_put 2 = .ok (.invokevirtual 46, 3) := by decide +kernel
theorem d_K_put_5 : decode b_K_put 5 = .ok (.ifCond .ne 21, 3) := by decide +kernel
theorem d_K_put_8 : decode b_K_put 8 = .ok (.aload_n 0, 1) := by decide +kernel
theorem d_K_put_9 : decode b_K_put 9 = .ok (.iload_n 2, 1) := by decide +kernel
theorem d_K_put_10 : decode b_K_put 10 = .ok (.invokevirtual 46, 3) := by decide +kernel
theorem d_K_put_13 : decode b_K_put 13 = .ok (.ifCond .ne 13, 3) := by decide +kernel
theorem d_K_put_16 : decode b_K_put 16 = .ok (.iload_n 3, 1) := by decide +kernel
theorem d_K_put_17 : decode b_K_put 17 = .ok (.i2l, 1) := by decide +kernel
theorem d_K_put_18 : decode b_K_put 18 = .ok (.bipush 20, 2) := by decide +kernel
theorem d_K_put_20 : decode b_K_put 20 = .ok (.invokestatic 50, 3) := by decide +kernel
theorem d_K_put_23 : decode b_K_put 23 = .ok (.ifCond .eq 7, 3) := by decide +kernel
theorem d_K_put_26 : decode b_K_put 26 = .ok (.ldc2_w 54, 3) := by decide +kernel
theorem d_K_put_29 : decode b_K_put 29 = .ok (.lreturn, 1) := by decide +kernel
theorem d_K_put_30 : decode b_K_put 30 = .ok (.aload_n 0, 1) := by decide +kernel
theorem d_K_put_31 : decode b_K_put 31 = .ok (.getfield 17, 3) := by decide +kernel
theorem d_K_put_34 : decode b_K_put 34 = .ok (.iload_n 1, 1) := by decide +kernel
theorem d_K_put_35 : decode b_K_put 35 = .ok (.iload_n 2, 1) := by decide +kernel
theorem d_K_put_36 : decode b_K_put 36 = .ok (.invokestatic 56, 3) := by decide +kernel
theorem d_K_put_39 : decode b_K_put 39 = .ok (.laload, 1) := by decide +kernel
theorem d_K_put_40 : decode b_K_put 40 = .ok (.lstore 4, 2) := by decide +kernel
theorem d_K_put_42 : decode b_K_put 42 = .ok (.aload_n 0, 1) := by decide +kernel
theorem d_K_put_43 : decode b_K_put 43 = .ok (.getfield 17, 3) := by decide +kernel
theorem d_K_put_46 : decode b_K_put 46 = .ok (.iload_n 1, 1) := by decide +kernel
theorem d_K_put_47 : decode b_K_put 47 = .ok (.iload_n 2, 1) := by decide +kernel
theorem d_K_put_48 : decode b_K_put 48 = .ok (.invokestatic 56, 3) := by decide +kernel
theorem d_K_put_51 : decode b_K_put 51 = .ok (.iload_n 3, 1) := by decide +kernel
theorem d_K_put_52 : decode b_K_put 52 = .ok (.i2l, 1) := by decide +kernel
theorem d_K_put_53 : decode b_K_put 53 = .ok (.lastore, 1) := by decide +kernel
theorem d_K_put_54 : decode b_K_put 54 = .ok (.aload_n 0, 1) := by decide +kernel
theorem d_K_put_55 : decode b_K_put 55 = .ok (.getfield 17, 3) := by decide +kernel
theorem d_K_put_58 : decode b_K_put 58 = .ok (.iload_n 2, 1) := by decide +kernel
theorem d_K_put_59 : decode b_K_put 59 = .ok (.iload_n 1, 1) := by decide +kernel
theorem d_K_put_60 : decode b_K_put 60 = .ok (.invokestatic 56, 3) := by decide +kernel
theorem d_K_put_63 : decode b_K_put 63 = .ok (.iload_n 3, 1) := by decide +kernel
theorem d_K_put_64 : decode b_K_put 64 = .ok (.i2l, 1) := by decide +kernel
theorem d_K_put_65 : decode b_K_put 65 = .ok (.lastore, 1) := by decide +kernel
theorem d_K_put_66 : decode b_K_put 66 = .ok (.lload 4, 2) := by decide +kernel
theorem d_K_put_68 : decode b_K_put 68 = .ok (.lreturn, 1) := by decide +kernel
theorem d_K_isNoPlace_0 : decode b_K_isNoPlace 0 = .ok (.iload_n 1, 1) := by decide +kernel
theorem d_K_isNoPlace_1 : decode b_K_isNoPlace 1 = .ok (.ifCond .lt 11, 3) := by decide +kernel
theorem d_K_isNoPlace_4 : decode b_K_isNoPlace 4 = .ok (.iload_n 1, 1) := by decide +kernel
theorem d_K_isNoPlace_5 : decode b_K_isNoPlace 5 = .ok (.aload_n 0, 1) := by decide +kernel
theorem d_K_isNoPlace_6 : decode b_K_isNoPlace 6 = .ok (.getfield 7, 3) := by decide +kernel
theorem d_K_isNoPlace_9 : decode b_K_isNoPlace 9 = .ok (.if_icmp .le 7, 3) := by decide +kernel
theorem d_K_isNoPlace_12 : decode b_K_isNoPlace 12 = .ok (.iconst 1, 1) := by decide +kernel
theorem d_K_isNoPlace_13 : decode b_K_isNoPlace 13 = .ok (.goto 4, 3) := by decide +kernel
theorem d_K_isNoPlace_16 : decode b_K_isNoPlace 16 = .ok (.iconst 0, 1) := by decide +kernel
theorem d_K_isNoPlace_17 : decode b_K_isNoPlace 17 = .ok (.ireturn, 1) := by decide +kernel
theorem d_K_isBeyond_0 : decode b_K_isBeyond 0 = .ok (.lload_n 0, 1) := by decide +kernel
theorem d_K_isBeyond_1 : decode b_K_isBeyond 1 = .ok (.iload_n 2, 1) := by decide +kernel
theorem d_K_isBeyond_2 : decode b_K_isBeyond 2 = .ok (.ineg, 1) := by decide +kernel
theorem d_K_isBeyond_3 : decode b_K_isBeyond 3 = .ok (.i2l, 1) := by decide +kernel
theorem d_K_isBeyond_4 : decode b_K_isBeyond 4 = .ok (.lcmp, 1) := by decide +kernel
theorem d_K_isBeyond_5 : decode b_K_isBeyond 5 = .ok (.ifCond .lt 10, 3) := by decide +kernel
theorem d_K_isBeyond_8 : decode b_K_isBeyond 8 = .ok (.lload_n 0, 1) := by decide +kernel
theorem d_K_isBeyond_9 : decode b_K_isBeyond 9 = .ok (.iload_n 2, 1) := by decide +kernel
theorem d_K_isBeyond_10 : decode b_K_isBeyond 10 = .ok (.i2l, 1) := by decide +kernel
theorem d_K_isBeyond_11 : decode b_K_isBeyond 11 = .ok (.lcmp, 1) := by decide +kernel
theorem d_K_isBeyond_12 : decode b_K_isBeyond 12 = .ok (.ifCond .le 7, 3) := by decide +kernel
theorem d_K_isBeyond_15 : decode b_K_isBeyond 15 = .ok (.iconst 1, 1) := by decide +kernel
theorem d_K_isBeyond_16 : decode b_K_isBeyond 16 = .ok (.goto 4, 3) := by decide +kernel
theorem d_K_isBeyond_19 : decode b_K_isBeyond 19 = .ok (.iconst 0, 1) := by decide +kernel
theorem d_K_isBeyond_20 : decode b_K_isBeyond 20 = .ok (.ireturn, 1) := by decide +kernel
theorem d_K_place_0 : decode b_K_place 0 = .ok (.iconst 4, 1) := by decide +kernel
theorem d_K_place_1 : decode b_K_place 1 = .ok (.iload_n 0, 1) := by decide +kernel
theorem d_K_place_2 : decode b_K_place 2 = .ok (.imul, 1) := by decide +kernel
theorem d_K_place_3 : decode b_K_place 3 = .ok (.iload_n 1, 1) := by decide +kernel
theorem d_K_place_4 : decode b_K_place 4 = .ok (.iadd, 1) := by decide +kernel
theorem d_K_place_5 : decode b_K_place 5 = .ok (.ireturn, 1) := by decide +kernel
theorem d_K_kind_0 : decode b_K_kind 0 = .ok (.aload_n 0, 1) := by decide +kernel
theorem d_K_kind_1 : decode b_K_kind 1 = .ok (.aload_n 0, 1) := by decide +kernel
theorem d_K_kind_2 : decode b_K_kind 2 = .ok (.getfield 17, 3) := by decide +kernel
theorem d_K_kind_5 : decode b_K_kind 5 = .ok (.aload_n 0, 1) := by decide +kernel
theorem d_K_kind_6 : decode b_K_kind 6 = .ok (.getfield 7, 3) := by decide +kernel
theorem d_K_kind_9 : decode b_K_kind 9 = .ok (.invokevirtual 60, 3) := by decide +kernel
theorem d_K_kind_12 : decode b_K_kind 12 = .ok (.ireturn, 1) := by decide +kernel
theorem d_K_kindOf_0 : decode b_K_kindOf 0 = .ok (.aload_n 0, 1) := by decide +kernel
theorem d_K_kindOf_1 : decode b_K_kindOf 1 = .ok (.getfield 27, 3) := by decide +kernel
theorem d_K_kindOf_4 : decode b_K_kindOf 4 = .ok (.aload_n 1, 1) := by decide +kernel
theorem d_K_kindOf_5 : decode b_K_kindOf 5 = .ok (.iconst 1, 1) := by decide +kernel
theorem d_K_kindOf_6 : decode b_K_kindOf 6 = .ok (.iload_n 2, 1) := by decide +kernel
theorem d_K_kindOf_7 : decode b_K_kindOf 7 = .ok (.invokevirtual 64, 3) := by decide +kernel
theorem d_K_kindOf_10 : decode b_K_kindOf 10 = .ok (.aload_n 0, 1) := by decide +kernel
theorem d_K_kindOf_11 : decode b_K_kindOf 11 = .ok (.getfield 27, 3) := by decide +kernel
theorem d_K_kindOf_14 : decode b_K_kindOf 14 = .ok (.invokevirtual 68, 3) := by decide +kernel
theorem d_K_kindOf_17 : decode b_K_kindOf 17 = .ok (.istore_n 3, 1) := by decide +kernel
theorem d_K_kindOf_18 : decode b_K_kindOf 18 = .ok (.aload_n 0, 1) := by decide +kernel
theorem d_K_kindOf_19 : decode b_K_kindOf 19 = .ok (.getfield 27, 3) := by decide +kernel
theorem d_K_kindOf_22 : decode b_K_kindOf 22 = .ok (.invokevirtual 72, 3) := by decide +kernel
theorem d_K_kindOf_25 : decode b_K_kindOf 25 = .ok (.istore 4, 2) := by decide +kernel
theorem d_K_kindOf_27 : decode b_K_kindOf 27 = .ok (.aload_n 0, 1) := by decide +kernel
theorem d_K_kindOf_28 : decode b_K_kindOf 28 = .ok (.getfield 27, 3) := by decide +kernel
theorem d_K_kindOf_31 : decode b_K_kindOf 31 = .ok (.aload_n 1, 1) := by decide +kernel
theorem d_K_kindOf_32 : decode b_K_kindOf 32 = .ok (.iconst 0, 1) := by decide +kernel
theorem d_K_kindOf_33 : decode b_K_kindOf 33 = .ok (.iload_n 2, 1) := by decide +kernel
theorem d_K_kindOf_34 : decode b_K_kindOf 34 = .ok (.invokevirtual 64, 3) := by decide +kernel
theorem d_K_kindOf_37 : decode b_K_kindOf 37 = .ok (.aload_n 0, 1) := by decide +kernel
theorem d_K_kindOf_38 : decode b_K_kindOf 38 = .ok (.getfield 27, 3) := by decide +kernel
theorem d_K_kindOf_41 : decode b_K_kindOf 41 = .ok (.invokevirtual 68, 3) := by decide +kernel
theorem d_K_kindOf_44 : decode b_K_kindOf 44 = .ok (.istore 5, 2) := by decide +kernel
theorem d_K_kindOf_46 : decode b_K_kindOf 46 = .ok (.aload_n 0, 1) := by decide +kernel
theorem d_K_kindOf_47 : decode b_K_kindOf 47 = .ok (.getfield 27, 3) := by decide +kernel
theorem d_K_kindOf_50 : decode b_K_kindOf 50 = .ok (.invokevirtual 72, 3) := by decide +kernel
theorem d_K_kindOf_53 : decode b_K_kindOf 53 = .ok (.istore 6, 2) := by decide +kernel
theorem d_K_kindOf_55 : decode b_K_kindOf 55 = .ok (.iload 4, 2) := by decide +kernel
theorem d_K_kindOf_57 : decode b_K_kindOf 57 = .ok (.iload_n 3, 1) := by decide +kernel
theorem d_K_kindOf_58 : decode b_K_kindOf 58 = .ok (.if_icmp .gt 16, 3) := by decide +kernel
theorem d_K_kindOf_61 : decode b_K_kindOf 61 = .ok (.iload 4, 2) := by decide +kernel
theorem d_K_kindOf_63 : decode b_K_kindOf 63 = .ok (.iload_n 3, 1) := by decide +kernel
theorem d_K_kindOf_64 : decode b_K_kindOf 64 = .ok (.if_icmp .ne 14, 3) := by decide +kernel
theorem d_K_kindOf_67 : decode b_K_kindOf 67 = .ok (.iload 6, 2) := by decide +kernel
theorem d_K_kindOf_69 : decode b_K_kindOf 69 = .ok (.iload 5, 2) := by decide +kernel
theorem d_K_kindOf_71 : decode b_K_kindOf 71 = .ok (.if_icmp .le 7, 3) := by decide +kernel
theorem d_K_kindOf_74 : decode b_K_kindOf 74 = .ok (.iconst 1, 1) := by decide +kernel
theorem d_K_kindOf_75 : decode b_K_kindOf 75 = .ok (.goto 4, 3) := by decide +kernel
theorem d_K_kindOf_78 : decode b_K_kindOf 78 = .ok (.iconst 0, 1) := by decide +kernel
theorem d_K_kindOf_79 : decode b_K_kindOf 79 = .ok (.istore 7, 2) := by decide +kernel
theorem d_K_kindOf_81 : decode b_K_kindOf 81 = .ok (.iload 7, 2) := by decide +kernel
theorem d_K_kindOf_83 : decode b_K_kindOf 83 = .ok (.ifCond .eq 16, 3) := by decide +kernel
theorem d_K_kindOf_86 : decode b_K_kindOf 86 = .ok (.iload 4, 2) := by decide +kernel
theorem d_K_kindOf_88 : decode b_K_kindOf 88 = .ok (.iload_n 3, 1) := by decide +kernel
theorem d_K_kindOf_89 : decode b_K_kindOf 89 = .ok (.iload 6, 2) := by decide +kernel
theorem d_K_kindOf_91 : decode b_K_kindOf 91 = .ok (.iload 5, 2) := by decide +kernel
theorem d_K_kindOf_93 : decode b_K_kindOf 93 = .ok (.invokestatic 168, 3) := by decide +kernel
theorem d_K_kindOf_96 : decode b_K_kindOf 96 = .ok (.goto 13, 3) := by decide +kernel
theorem d_K_kindOf_99 : decode b_K_kindOf 99 = .ok (.iload_n 3, 1) := by decide +kernel
theorem d_K_kindOf_100 : decode b_K_kindOf 100 = .ok (.iload 4, 2) := by decide +kernel
theorem d_K_kindOf_102 : decode b_K_kindOf 102 = .ok (.iload 5, 2) := by decide +kernel
theorem d_K_kindOf_104 : decode b_K_kindOf 104 = .ok (.iload 6, 2) := by decide +kernel
theorem d_K_kindOf_106 : decode b_K_kindOf 106 = .ok (.invokestatic 168, 3) := by decide +kernel
theorem d_K_kindOf_109 : decode b_K_kindOf 109 = .ok (.istore 8, 2) := by decide +kernel
theorem d_K_kindOf_111 : decode b_K_kindOf 111 = .ok (.iload_n 2, 1) := by decide +kernel
theorem d_K_kindOf_112 : decode b_K_kindOf 112 = .ok (.iconst 2, 1) := by decide +kernel
theorem d_K_kindOf_113 : decode b_K_kindOf 113 = .ok (.if_icmp .ne 11, 3) := by decide +kernel
theorem d_K_kindOf_116 : decode b_K_kindOf 116 = .ok (.iload 8, 2) := by decide +kernel
theorem d_K_kindOf_118 : decode b_K_kindOf 118 = .ok (.invokestatic 172, 3) := by decide +kernel
theorem d_K_kindOf_121 : decode b_K_kindOf 121 = .ok (.goto 8, 3) := by decide +kernel
theorem d_K_kindOf_124 : decode b_K_kindOf 124 = .ok (.iload 8, 2) := by decide +kernel
theorem d_K_kindOf_126 : decode b_K_kindOf 126 = .ok (.invokestatic 175, 3) := by decide +kernel
theorem d_K_kindOf_129 : decode b_K_kindOf 129 = .ok (.ireturn, 1) := by decide +kernel
theorem d_K_codeOf_0 : decode b_K_codeOf 0 = .ok (.sipush 1000, 3) := by decide +kernel
theorem d_K_codeOf_3 : decode b_K_codeOf 3 = .ok (.iload_n 0, 1) := by decide +kernel
theorem d_K_codeOf_4 : decode b_K_codeOf 4 = .ok (.imul, 1) := by decide +kernel
theorem d_K_codeOf_5 : decode b_K_codeOf 5 = .ok (.bipush 100, 2) := by decide +kernel
theorem d_K_codeOf_7 : decode b_K_codeOf 7 = .ok (.iload_n 1, 1) := by decide +kernel
theorem d_K_codeOf_8 : decode b_K_codeOf 8 = .ok (.imul, 1) := by decide +kernel
theorem d_K_codeOf_9 : decode b_K_codeOf 9 = .ok (.iadd, 1) := by decide +kernel
theorem d_K_codeOf_10 : decode b_K_codeOf 10 = .ok (.bipush 10, 2) := by decide +kernel
theorem d_K_codeOf_12 : decode b_K_codeOf 12 = .ok (.iload_n 2, 1) := by decide +kernel
theorem d_K_codeOf_13 : decode b_K_codeOf 13 = .ok (.imul, 1) := by decide +kernel
theorem d_K_codeOf_14 : decode b_K_codeOf 14 = .ok (.iadd, 1) := by decide +kernel
theorem d_K_codeOf_15 : decode b_K_codeOf 15 = .ok (.iload_n 3, 1) := by decide +kernel
theorem d_K_codeOf_16 : decode b_K_codeOf 16 = .ok (.iadd, 1) := by decide +kernel
theorem d_K_codeOf_17 : decode b_K_codeOf 17 = .ok (.ireturn, 1) := by decide +kernel
theorem d_K_kindInPlane_0 : decode b_K_kindInPlane 0 = .ok (.iload_n 0, 1) := by decide +kernel
theorem d_K_kindInPlane_1 : decode b_K_kindInPlane 1 = .ok (.lookupswitch 124 #[(10, 122), (11, 119), (1010, 116), (1011, 111), (1020, 114), (1021, 109), (1111, 107), (1121, 105), (2020, 101), (2021, 103), (2030, 99)], 99) := by decide +kernel
theorem d_K_kindInPlane_100 : decode b_K_kindInPlane 100 = .ok (.iconst 0, 1) := by decide +kernel
theorem d_K_kindInPlane_101 : decode b_K_kindInPlane 101 = .ok (.ireturn, 1) := by decide +kernel
theorem d_K_kindInPlane_102 : decode b_K_kindInPlane 102 = .ok (.iconst 1, 1) := by decide +kernel
theorem d_K_kindInPlane_103 : decode b_K_kindInPlane 103 = .ok (.ireturn, 1) := by decide +kernel
theorem d_K_kindInPlane_104 : decode b_K_kindInPlane 104 = .ok (.iconst 2, 1) := by decide +kernel
theorem d_K_kindInPlane_105 : decode b_K_kindInPlane 105 = .ok (.ireturn, 1) := by decide +kernel
theorem d_K_kindInPlane_106 : decode b_K_kindInPlane 106 = .ok (.iconst 3, 1) := by decide +kernel
theorem d_K_kindInPlane_107 : decode b_K_kindInPlane 107 = .ok (.ireturn, 1) := by decide +kernel
theorem d_K_kindInPlane_108 : decode b_K_kindInPlane 108 = .ok (.iconst 5, 1) := by decide +kernel
theorem d_K_kindInPlane_109 : decode b_K_kindInPlane 109 = .ok (.ireturn, 1) := by decide +kernel
theorem d_K_kindInPlane_110 : decode b_K_kindInPlane 110 = .ok (.iconst 4, 1) := by decide +kernel
theorem d_K_kindInPlane_111 : decode b_K_kindInPlane 111 = .ok (.ireturn, 1) := by decide +kernel
theorem d_K_kindInPlane_112 : decode b_K_kindInPlane 112 = .ok (.bipush 6, 2) := by decide +kernel
theorem d_K_kindInPlane_114 : decode b_K_kindInPlane 114 = .ok (.ireturn, 1) := by decide +kernel
theorem d_K_kindInPlane_115 : decode b_K_kindInPlane 115 = .ok (.iconst 0, 1) := by decide +kernel
theorem d_K_kindInPlane_116 : decode b_K_kindInPlane 116 = .ok (.ireturn, 1) := by decide +kernel
theorem d_K_kindInPlane_117 : decode b_K_kindInPlane 117 = .ok (.bipush 9, 2) := by decide +kernel
theorem d_K_kindInPlane_119 : decode b_K_kindInPlane 119 = .ok (.ireturn, 1) := by decide +kernel
theorem d_K_kindInPlane_120 : decode b_K_kindInPlane 120 = .ok (.bipush 7, 2) := by decide +kernel
theorem d_K_kindInPlane_122 : decode b_K_kindInPlane 122 = .ok (.ireturn, 1) := by decide +kernel
theorem d_K_kindInPlane_123 : decode b_K_kindInPlane 123 = .ok (.iconst 0, 1) := by decide +kernel
theorem d_K_kindInPlane_124 : decode b_K_kindInPlane 124 = .ok (.ireturn, 1) := by decide +kernel
theorem d_K_kindInPlane_125 : decode b_K_kindInPlane 125 = .ok (.bipush 8, 2) := by decide +kernel
theorem d_K_kindInPlane_127 : decode b_K_kindInPlane 127 = .ok (.ireturn, 1) := by decide +kernel
theorem d_K_kindInSpace_0 : decode b_K_kindInSpace 0 = .ok (.iload_n 0, 1) := by decide +kernel
theorem d_K_kindInSpace_1 : decode b_K_kindInSpace 1 = .ok (.lookupswitch 220 #[(10, 217), (11, 214), (1010, 211), (1011, 205), (1020, 208), (1021, 202), (1111, 199), (1121, 196), (1122, 193), (2020, 190), (2021, 184), (2030, 187), (2031, 181), (2121, 178), (2122, 172), (2131, 175), (3030, 166), (3031, 169), (3040, 163)], 163) := by decide +kernel
theorem d_K_kindInSpace_164 : decode b_K_kindInSpace 164 = .ok (.bipush 10, 2) := by decide +kernel
theorem d_K_kindInSpace_166 : decode b_K_kindInSpace 166 = .ok (.ireturn, 1) := by decide +kernel
theorem d_K_kindInSpace_167 : decode b_K_kindInSpace 167 = .ok (.bipush 11, 2) := by decide +kernel
theorem d_K_kindInSpace_169 : decode b_K_kindInSpace 169 = .ok (.ireturn, 1) := by decide +kernel
theorem d_K_kindInSpace_170 : decode b_K_kindInSpace 170 = .ok (.bipush 12, 2) := by decide +kernel
theorem d_K_kindInSpace_172 : decode b_K_kindInSpace 172 = .ok (.ireturn, 1) := by decide +kernel
theorem d_K_kindInSpace_173 : decode b_K_kindInSpace 173 = .ok (.bipush 13, 2) := by decide +kernel
theorem d_K_kindInSpace_175 : decode b_K_kindInSpace 175 = .ok (.ireturn, 1) := by decide +kernel
theorem d_K_kindInSpace_176 : decode b_K_kindInSpace 176 = .ok (.bipush 14, 2) := by decide +kernel
theorem d_K_kindInSpace_178 : decode b_K_kindInSpace 178 = .ok (.ireturn, 1) := by decide +kernel
theorem d_K_kindInSpace_179 : decode b_K_kindInSpace 179 = .ok (.bipush 17, 2) := by decide +kernel
theorem d_K_kindInSpace_181 : decode b_K_kindInSpace 181 = .ok (.ireturn, 1) := by decide +kernel
theorem d_K_kindInSpace_182 : decode b_K_kindInSpace 182 = .ok (.bipush 15, 2) := by decide +kernel
theorem d_K_kindInSpace_184 : decode b_K_kindInSpace 184 = .ok (.ireturn, 1) := by decide +kernel
theorem d_K_kindInSpace_185 : decode b_K_kindInSpace 185 = .ok (.bipush 18, 2) := by decide +kernel
theorem d_K_kindInSpace_187 : decode b_K_kindInSpace 187 = .ok (.ireturn, 1) := by decide +kernel
theorem d_K_kindInSpace_188 : decode b_K_kindInSpace 188 = .ok (.bipush 10, 2) := by decide +kernel
theorem d_K_kindInSpace_190 : decode b_K_kindInSpace 190 = .ok (.ireturn, 1) := by decide +kernel
theorem d_K_kindInSpace_191 : decode b_K_kindInSpace 191 = .ok (.bipush 21, 2) := by decide +kernel
theorem d_K_kindInSpace_193 : decode b_K_kindInSpace 193 = .ok (.ireturn, 1) := by decide +kernel
theorem d_K_kindInSpace_194 : decode b_K_kindInSpace 194 = .ok (.bipush 16, 2) := by decide +kernel
theorem d_K_kindInSpace_196 : decode b_K_kindInSpace 196 = .ok (.ireturn, 1) := by decide +kernel
theorem d_K_kindInSpace_197 : decode b_K_kindInSpace 197 = .ok (.bipush 19, 2) := by decide +kernel
theorem d_K_kindInSpace_199 : decode b_K_kindInSpace 199 = .ok (.ireturn, 1) := by decide +kernel
theorem d_K_kindInSpace_200 : decode b_K_kindInSpace 200 = .ok (.bipush 22, 2) := by decide +kernel
theorem d_K_kindInSpace_202 : decode b_K_kindInSpace 202 = .ok (.ireturn, 1) := by decide +kernel
theorem d_K_kindInSpace_203 : decode b_K_kindInSpace 203 = .ok (.bipush 20, 2) := by decide +kernel
theorem d_K_kindInSpace_205 : decode b_K_kindInSpace 205 = .ok (.ireturn, 1) := by decide +kernel
theorem d_K_kindInSpace_206 : decode b_K_kindInSpace 206 = .ok (.bipush 23, 2) := by decide +kernel
theorem d_K_kindInSpace_208 : decode b_K_kindInSpace 208 = .ok (.ireturn, 1) := by decide +kernel
theorem d_K_kindInSpace_209 : decode b_K_kindInSpace 209 = .ok (.bipush 10, 2) := by decide +kernel
theorem d_K_kindInSpace_211 : decode b_K_kindInSpace 211 = .ok (.ireturn, 1) := by decide +kernel
theorem d_K_kindInSpace_212 : decode b_K_kindInSpace 212 = .ok (.bipush 25, 2) := by decide +kernel
theorem d_K_kindInSpace_214 : decode b_K_kindInSpace 214 = .ok (.ireturn, 1) := by decide +kernel
theorem d_K_kindInSpace_215 : decode b_K_kindInSpace 215 = .ok (.bipush 24, 2) := by decide +kernel
theorem d_K_kindInSpace_217 : decode b_K_kindInSpace 217 = .ok (.ireturn, 1) := by decide +kernel
theorem d_K_kindInSpace_218 : decode b_K_kindInSpace 218 = .ok (.bipush 10, 2) := by decide +kernel
theorem d_K_kindInSpace_220 : decode b_K_kindInSpace 220 = .ok (.ireturn, 1) := by decide +kernel
theorem d_K_kindInSpace_221 : decode b_K_kindInSpace 221 = .ok (.bipush 26, 2) := by decide +kernel
theorem d_K_kindInSpace_223 : decode b_K_kindInSpace 223 = .ok (.ireturn, 1) := by decide +kernel
theorem d_K_signs_0 : decode b_K_signs 0 = .ok (.iload_n 1, 1) := by decide +kernel
theorem d_K_signs_1 : decode b_K_signs 1 = .ok (.ifCond .lt 8, 3) := by decide +kernel
theorem d_K_signs_4 : decode b_K_signs 4 = .ok (.iload_n 1, 1) := by decide +kernel
theorem d_K_signs_5 : decode b_K_signs 5 = .ok (.iconst 3, 1) := by decide +kernel
theorem d_K_signs_6 : decode b_K_signs 6 = .ok (.if_icmp .le 6, 3) := by decide +kernel
theorem d_K_signs_9 : decode b_K_signs 9 = .ok (.bipush (-2), 2) := by decide +kernel
theorem d_K_signs_11 : decode b_K_signs 11 = .ok (.ireturn, 1) := by decide +kernel
theorem d_K_signs_12 : decode b_K_signs 12 = .ok (.aload_n 0, 1) := by decide +kernel
theorem d_K_signs_13 : decode b_K_signs 13 = .ok (.getfield 27, 3) := by decide +kernel
theorem d_K_signs_16 : decode b_K_signs 16 = .ok (.aload_n 0, 1) := by decide +kernel
theorem d_K_signs_17 : decode b_K_signs 17 = .ok (.getfield 17, 3) := by decide +kernel
theorem d_K_signs_20 : decode b_K_signs 20 = .ok (.iload_n 1, 1) := by decide +kernel
theorem d_K_signs_21 : decode b_K_signs 21 = .ok (.iconst 2, 1) := by decide +kernel
theorem d_K_signs_22 : decode b_K_signs 22 = .ok (.if_icmp .ge 7, 3) := by decide +kernel
theorem d_K_signs_25 : decode b_K_signs 25 = .ok (.iconst 1, 1) := by decide +kernel
theorem d_K_signs_26 : decode b_K_signs 26 = .ok (.goto 4, 3) := by decide +kernel
theorem d_K_signs_29 : decode b_K_signs 29 = .ok (.iconst 0, 1) := by decide +kernel
theorem d_K_signs_30 : decode b_K_signs 30 = .ok (.aload_n 0, 1) := by decide +kernel
theorem d_K_signs_31 : decode b_K_signs 31 = .ok (.getfield 7, 3) := by decide +kernel
theorem d_K_signs_34 : decode b_K_signs 34 = .ok (.invokevirtual 64, 3) := by decide +kernel
theorem d_K_signs_37 : decode b_K_signs 37 = .ok (.iload_n 1, 1) := by decide +kernel
theorem d_K_signs_38 : decode b_K_signs 38 = .ok (.iconst 2, 1) := by decide +kernel
theorem d_K_signs_39 : decode b_K_signs 39 = .ok (.irem, 1) := by decide +kernel
theorem d_K_signs_40 : decode b_K_signs 40 = .ok (.ifCond .ne 13, 3) := by decide +kernel
theorem d_K_signs_43 : decode b_K_signs 43 = .ok (.aload_n 0, 1) := by decide +kernel
theorem d_K_signs_44 : decode b_K_signs 44 = .ok (.getfield 27, 3) := by decide +kernel
theorem d_K_signs_47 : decode b_K_signs 47 = .ok (.invokevirtual 68, 3) := by decide +kernel
theorem d_K_signs_50 : decode b_K_signs 50 = .ok (.goto 10, 3) := by decide +kernel
theorem d_K_signs_53 : decode b_K_signs 53 = .ok (.aload_n 0, 1) := by decide +kernel
theorem d_K_signs_54 : decode b_K_signs 54 = .ok (.getfield 27, 3) := by decide +kernel
theorem d_K_signs_57 : decode b_K_signs 57 = .ok (.invokevirtual 72, 3) := by decide +kernel
theorem d_K_signs_60 : decode b_K_signs 60 = .ok (.ireturn, 1) := by decide +kernel
theorem d_K_determinant_0 : decode b_K_determinant 0 = .ok (.iload_n 1, 1) := by decide +kernel
theorem d_K_determinant_1 : decode b_K_determinant 1 = .ok (.ifCond .lt 8, 3) := by decide +kernel
theorem d_K_determinant_4 : decode b_K_determinant 4 = .ok (.iload_n 1, 1) := by decide +kernel
theorem d_K_determinant_5 : decode b_K_determinant 5 = .ok (.iconst 3, 1) := by decide +kernel
theorem d_K_determinant_6 : decode b_K_determinant 6 = .ok (.if_icmp .le 7, 3) := by decide +kernel
theorem d_K_determinant_9 : decode b_K_determinant 9 = .ok (.ldc2_w 54, 3) := by decide +kernel
theorem d_K_determinant_12 : decode b_K_determinant 12 = .ok (.lreturn, 1) := by decide +kernel
theorem d_K_determinant_13 : decode b_K_determinant 13 = .ok (.aload_n 0, 1) := by decide +kernel
theorem d_K_determinant_14 : decode b_K_determinant 14 = .ok (.getfield 27, 3) := by decide +kernel
theorem d_K_determinant_17 : decode b_K_determinant 17 = .ok (.aload_n 0, 1) := by decide +kernel
theorem d_K_determinant_18 : decode b_K_determinant 18 = .ok (.getfield 17, 3) := by decide +kernel
theorem d_K_determinant_21 : decode b_K_determinant 21 = .ok (.iload_n 1, 1) := by decide +kernel
theorem d_K_determinant_22 : decode b_K_determinant 22 = .ok (.iconst 1, 1) := by decide +kernel
theorem d_K_determinant_23 : decode b_K_determinant 23 = .ok (.if_icmp .ne 7, 3) := by decide +kernel
theorem d_K_determinant_26 : decode b_K_determinant 26 = .ok (.iconst 0, 1) := by decide +kernel
theorem d_K_determinant_27 : decode b_K_determinant 27 = .ok (.goto 4, 3) := by decide +kernel
theorem d_K_determinant_30 : decode b_K_determinant 30 = .ok (.iconst 1, 1) := by decide +kernel
theorem d_K_determinant_31 : decode b_K_determinant 31 = .ok (.aload_n 0, 1) := by decide +kernel
theorem d_K_determinant_32 : decode b_K_determinant 32 = .ok (.getfield 7, 3) := by decide +kernel
theorem d_K_determinant_35 : decode b_K_determinant 35 = .ok (.invokevirtual 64, 3) := by decide +kernel
theorem d_K_determinant_38 : decode b_K_determinant 38 = .ok (.iload_n 1, 1) := by decide +kernel
theorem d_K_determinant_39 : decode b_K_determinant 39 = .ok (.iconst 2, 1) := by decide +kernel
theorem d_K_determinant_40 : decode b_K_determinant 40 = .ok (.if_icmp .ne 11, 3) := by decide +kernel
theorem d_K_determinant_43 : decode b_K_determinant 43 = .ok (.aload_n 0, 1) := by decide +kernel
theorem d_K_determinant_44 : decode b_K_determinant 44 = .ok (.getfield 27, 3) := by decide +kernel
theorem d_K_determinant_47 : decode b_K_determinant 47 = .ok (.invokevirtual 75, 3) := by decide +kernel
theorem d_K_determinant_50 : decode b_K_determinant 50 = .ok (.lreturn, 1) := by decide +kernel
theorem d_K_determinant_51 : decode b_K_determinant 51 = .ok (.iload_n 1, 1) := by decide +kernel
theorem d_K_determinant_52 : decode b_K_determinant 52 = .ok (.iconst 3, 1) := by decide +kernel
theorem d_K_determinant_53 : decode b_K_determinant 53 = .ok (.if_icmp .ne 13, 3) := by decide +kernel
theorem d_K_determinant_56 : decode b_K_determinant 56 = .ok (.aload_n 0, 1) := by decide +kernel
theorem d_K_determinant_57 : decode b_K_determinant 57 = .ok (.getfield 27, 3) := by decide +kernel
theorem d_K_determinant_60 : decode b_K_determinant 60 = .ok (.invokevirtual 79, 3) := by decide +kernel
theorem d_K_determinant_63 : decode b_K_determinant 63 = .ok (.goto 10, 3) := by decide +kernel
theorem d_K_determinant_66 : decode b_K_determinant 66 = .ok (.aload_n 0, 1) := by decide +kernel
theorem d_K_determinant_67 : decode b_K_determinant 67 = .ok (.getfield 27, 3) := by decide +kernel
theorem d_K_determinant_70 : decode b_K_determinant 70 = .ok (.invokevirtual 82, 3) := by decide +kernel
theorem d_K_determinant_73 : decode b_K_determinant 73 = .ok (.lreturn, 1) := by decide +kernel
theorem d_K_middles_0 : decode b_K_middles 0 = .ok (.aload_n 0, 1) := by decide +kernel
theorem d_K_middles_1 : decode b_K_middles 1 = .ok (.getfield 27, 3) := by decide +kernel
theorem d_K_middles_4 : decode b_K_middles 4 = .ok (.aload_n 0, 1) := by decide +kernel
theorem d_K_middles_5 : decode b_K_middles 5 = .ok (.getfield 17, 3) := by decide +kernel
theorem d_K_middles_8 : decode b_K_middles 8 = .ok (.iconst 1, 1) := by decide +kernel
theorem d_K_middles_9 : decode b_K_middles 9 = .ok (.aload_n 0, 1) := by decide +kernel
theorem d_K_middles_10 : decode b_K_middles 10 = .ok (.getfield 7, 3) := by decide +kernel
theorem d_K_middles_13 : decode b_K_middles 13 = .ok (.invokevirtual 64, 3) := by decide +kernel
theorem d_K_middles_16 : decode b_K_middles 16 = .ok (.aload_n 0, 1) := by decide +kernel
theorem d_K_middles_17 : decode b_K_middles 17 = .ok (.getfield 27, 3) := by decide +kernel
theorem d_K_middles_20 : decode b_K_middles 20 = .ok (.invokevirtual 85, 3) := by decide +kernel
theorem d_K_middles_23 : decode b_K_middles 23 = .ok (.istore_n 1, 1) := by decide +kernel
theorem d_K_middles_24 : decode b_K_middles 24 = .ok (.aload_n 0, 1) := by decide +kernel
theorem d_K_middles_25 : decode b_K_middles 25 = .ok (.getfield 27, 3) := by decide +kernel
theorem d_K_middles_28 : decode b_K_middles 28 = .ok (.aload_n 0, 1) := by decide +kernel
theorem d_K_middles_29 : decode b_K_middles 29 = .ok (.getfield 17, 3) := by decide +kernel
theorem d_K_middles_32 : decode b_K_middles 32 = .ok (.iconst 0, 1) := by decide +kernel
theorem d_K_middles_33 : decode b_K_middles 33 = .ok (.aload_n 0, 1) := by decide +kernel
theorem d_K_middles_34 : decode b_K_middles 34 = .ok (.getfield 7, 3) := by decide +kernel
theorem d_K_middles_37 : decode b_K_middles 37 = .ok (.invokevirtual 64, 3) := by decide +kernel
theorem d_K_middles_40 : decode b_K_middles 40 = .ok (.aload_n 0, 1) := by decide +kernel
theorem d_K_middles_41 : decode b_K_middles 41 = .ok (.getfield 27, 3) := by decide +kernel
theorem d_K_middles_44 : decode b_K_middles 44 = .ok (.invokevirtual 85, 3) := by decide +kernel
theorem d_K_middles_47 : decode b_K_middles 47 = .ok (.iload_n 1, 1) := by decide +kernel
theorem d_K_middles_48 : decode b_K_middles 48 = .ok (.iconst 2, 1) := by decide +kernel
theorem d_K_middles_49 : decode b_K_middles 49 = .ok (.iadd, 1) := by decide +kernel
theorem d_K_middles_50 : decode b_K_middles 50 = .ok (.if_icmp .ne 8, 3) := by decide +kernel
theorem d_K_middles_53 : decode b_K_middles 53 = .ok (.bipush (-3), 2) := by decide +kernel
theorem d_K_middles_55 : decode b_K_middles 55 = .ok (.goto 9, 3) := by decide +kernel
theorem d_K_middles_58 : decode b_K_middles 58 = .ok (.aload_n 0, 1) := by decide +kernel
theorem d_K_middles_59 : decode b_K_middles 59 = .ok (.getfield 7, 3) := by decide +kernel
theorem d_K_middles_62 : decode b_K_middles 62 = .ok (.iload_n 1, 1) := by decide +kernel
theorem d_K_middles_63 : decode b_K_middles 63 = .ok (.isub, 1) := by decide +kernel
theorem d_K_middles_64 : decode b_K_middles 64 = .ok (.ireturn, 1) := by decide +kernel
theorem d_K_middle_0 : decode b_K_middle 0 = .ok (.iload_n 1, 1) := by decide +kernel
theorem d_K_middle_1 : decode b_K_middle 1 = .ok (.iconst 1, 1) := by decide +kernel
theorem d_K_middle_2 : decode b_K_middle 2 = .ok (.if_icmp .lt 18, 3) := by decide +kernel
theorem d_K_middle_5 : decode b_K_middle 5 = .ok (.iload_n 1, 1) := by decide +kernel
theorem d_K_middle_6 : decode b_K_middle 6 = .ok (.aload_n 0, 1) := by decide +kernel
theorem d_K_middle_7 : decode b_K_middle 7 = .ok (.getfield 7, 3) := by decide +kernel
theorem d_K_middle_10 : decode b_K_middle 10 = .ok (.if_icmp .gt 10, 3) := by decide +kernel
theorem d_K_middle_13 : decode b_K_middle 13 = .ok (.iload_n 2, 1) := by decide +kernel
theorem d_K_middle_14 : decode b_K_middle 14 = .ok (.invokestatic 88, 3) := by decide +kernel
theorem d_K_middle_17 : decode b_K_middle 17 = .ok (.ifCond .eq 7, 3) := by decide +kernel
theorem d_K_middle_20 : decode b_K_middle 20 = .ok (.ldc2_w 54, 3) := by decide +kernel
theorem d_K_middle_23 : decode b_K_middle 23 = .ok (.lreturn, 1) := by decide +kernel
theorem d_K_middle_24 : decode b_K_middle 24 = .ok (.aload_n 0, 1) := by decide +kernel
theorem d_K_middle_25 : decode b_K_middle 25 = .ok (.getfield 27, 3) := by decide +kernel
theorem d_K_middle_28 : decode b_K_middle 28 = .ok (.aload_n 0, 1) := by decide +kernel
theorem d_K_middle_29 : decode b_K_middle 29 = .ok (.getfield 17, 3) := by decide +kernel
theorem d_K_middle_32 : decode b_K_middle 32 = .ok (.iconst 1, 1) := by decide +kernel
theorem d_K_middle_33 : decode b_K_middle 33 = .ok (.aload_n 0, 1) := by decide +kernel
theorem d_K_middle_34 : decode b_K_middle 34 = .ok (.getfield 7, 3) := by decide +kernel
theorem d_K_middle_37 : decode b_K_middle 37 = .ok (.invokevirtual 64, 3) := by decide +kernel
theorem d_K_middle_40 : decode b_K_middle 40 = .ok (.lconst 0, 1) := by decide +kernel
theorem d_K_middle_41 : decode b_K_middle 41 = .ok (.lstore_n 3, 1) := by decide +kernel
theorem d_K_middle_42 : decode b_K_middle 42 = .ok (.iconst 1, 1) := by decide +kernel
theorem d_K_middle_43 : decode b_K_middle 43 = .ok (.istore 5, 2) := by decide +kernel
theorem d_K_middle_45 : decode b_K_middle 45 = .ok (.iload 5, 2) := by decide +kernel
theorem d_K_middle_47 : decode b_K_middle 47 = .ok (.aload_n 0, 1) := by decide +kernel
theorem d_K_middle_48 : decode b_K_middle 48 = .ok (.getfield 7, 3) := by decide +kernel
theorem d_K_middle_51 : decode b_K_middle 51 = .ok (.if_icmp .gt 38, 3) := by decide +kernel
theorem d_K_middle_54 : decode b_K_middle 54 = .ok (.lload_n 3, 1) := by decide +kernel
theorem d_K_middle_55 : decode b_K_middle 55 = .ok (.aload_n 0, 1) := by decide +kernel
theorem d_K_middle_56 : decode b_K_middle 56 = .ok (.getfield 27, 3) := by decide +kernel
theorem d_K_middle_59 : decode b_K_middle 59 = .ok (.iload_n 1, 1) := by decide +kernel
theorem d_K_middle_60 : decode b_K_middle 60 = .ok (.iconst 1, 1) := by decide +kernel
theorem d_K_middle_61 : decode b_K_middle 61 = .ok (.isub, 1) := by decide +kernel
theorem d_K_middle_62 : decode b_K_middle 62 = .ok (.iload 5, 2) := by decide +kernel
theorem d_K_middle_64 : decode b_K_middle 64 = .ok (.iconst 1, 1) := by decide +kernel
theorem d_K_middle_65 : decode b_K_middle 65 = .ok (.isub, 1) := by decide +kernel
theorem d_K_middle_66 : decode b_K_middle 66 = .ok (.invokevirtual 91, 3) := by decide +kernel
theorem d_K_middle_69 : decode b_K_middle 69 = .ok (.aload_n 0, 1) := by decide +kernel
theorem d_K_middle_70 : decode b_K_middle 70 = .ok (.getfield 17, 3) := by decide +kernel
theorem d_K_middle_73 : decode b_K_middle 73 = .ok (.iload 5, 2) := by decide +kernel
theorem d_K_middle_75 : decode b_K_middle 75 = .ok (.iconst 0, 1) := by decide +kernel
theorem d_K_middle_76 : decode b_K_middle 76 = .ok (.invokestatic 56, 3) := by decide +kernel
theorem d_K_middle_79 : decode b_K_middle 79 = .ok (.laload, 1) := by decide +kernel
theorem d_K_middle_80 : decode b_K_middle 80 = .ok (.lmul, 1) := by decide +kernel
theorem d_K_middle_81 : decode b_K_middle 81 = .ok (.lsub, 1) := by decide +kernel
theorem d_K_middle_82 : decode b_K_middle 82 = .ok (.lstore_n 3, 1) := by decide +kernel
theorem d_K_middle_83 : decode b_K_middle 83 = .ok (.iinc 5 1, 3) := by decide +kernel
theorem d_K_middle_86 : decode b_K_middle 86 = .ok (.goto (-41), 3) := by decide +kernel
theorem d_K_middle_89 : decode b_K_middle 89 = .ok (.lload_n 3, 1) := by decide +kernel
theorem d_K_middle_90 : decode b_K_middle 90 = .ok (.aload_n 0, 1) := by decide +kernel
theorem d_K_middle_91 : decode b_K_middle 91 = .ok (.getfield 27, 3) := by decide +kernel
theorem d_K_middle_94 : decode b_K_middle 94 = .ok (.invokevirtual 82, 3) := by decide +kernel
theorem d_K_middle_97 : decode b_K_middle 97 = .ok (.iload_n 2, 1) := by decide +kernel
theorem d_K_middle_98 : decode b_K_middle 98 = .ok (.invokestatic 95, 3) := by decide +kernel
theorem d_K_middle_101 : decode b_K_middle 101 = .ok (.lreturn, 1) := by decide +kernel
theorem d_K_isNoPart_0 : decode b_K_isNoPart 0 = .ok (.iload_n 0, 1) := by decide +kernel
theorem d_K_isNoPart_1 : decode b_K_isNoPart 1 = .ok (.ifCond .eq 12, 3) := by decide +kernel
theorem d_K_isNoPart_4 : decode b_K_isNoPart 4 = .ok (.iload_n 0, 1) := by decide +kernel
theorem d_K_isNoPart_5 : decode b_K_isNoPart 5 = .ok (.iconst 1, 1) := by decide +kernel
theorem d_K_isNoPart_6 : decode b_K_isNoPart 6 = .ok (.if_icmp .eq 7, 3) := by decide +kernel
theorem d_K_isNoPart_9 : decode b_K_isNoPart 9 = .ok (.iconst 1, 1) := by decide +kernel
theorem d_K_isNoPart_10 : decode b_K_isNoPart 10 = .ok (.goto 4, 3) := by decide +kernel
theorem d_K_isNoPart_13 : decode b_K_isNoPart 13 = .ok (.iconst 0, 1) := by decide +kernel
theorem d_K_isNoPart_14 : decode b_K_isNoPart 14 = .ok (.ireturn, 1) := by decide +kernel
theorem d_K_partOfFraction_0 : decode b_K_partOfFraction 0 = .ok (.lload_n 2, 1) := by decide +kernel
theorem d_K_partOfFraction_1 : decode b_K_partOfFraction 1 = .ok (.lconst 0, 1) := by decide +kernel
theorem d_K_partOfFraction_2 : decode b_K_partOfFraction 2 = .ok (.lcmp, 1) := by decide +kernel
theorem d_K_partOfFraction_3 : decode b_K_partOfFraction 3 = .ok (.ifCond .ne 7, 3) := by decide +kernel
theorem d_K_partOfFraction_6 : decode b_K_partOfFraction 6 = .ok (.ldc2_w 54, 3) := by decide +kernel
theorem d_K_partOfFraction_9 : decode b_K_partOfFraction 9 = .ok (.lreturn, 1) := by decide +kernel
theorem d_K_partOfFraction_10 : decode b_K_partOfFraction 10 = .ok (.lload_n 0, 1) := by decide +kernel
theorem d_K_partOfFraction_11 : decode b_K_partOfFraction 11 = .ok (.lload_n 2, 1) := by decide +kernel
theorem d_K_partOfFraction_12 : decode b_K_partOfFraction 12 = .ok (.invokestatic 164, 3) := by decide +kernel
theorem d_K_partOfFraction_15 : decode b_K_partOfFraction 15 = .ok (.lstore 5, 2) := by decide +kernel
theorem d_K_partOfFraction_17 : decode b_K_partOfFraction 17 = .ok (.lload 5, 2) := by decide +kernel
theorem d_K_partOfFraction_19 : decode b_K_partOfFraction 19 = .ok (.lconst 0, 1) := by decide +kernel
theorem d_K_partOfFraction_20 : decode b_K_partOfFraction 20 = .ok (.lcmp, 1) := by decide +kernel
theorem d_K_partOfFraction_21 : decode b_K_partOfFraction 21 = .ok (.ifCond .ne 7, 3) := by decide +kernel
theorem d_K_partOfFraction_24 : decode b_K_partOfFraction 24 = .ok (.ldc2_w 54, 3) := by decide +kernel
theorem d_K_partOfFraction_27 : decode b_K_partOfFraction 27 = .ok (.lreturn, 1) := by decide +kernel
theorem d_K_partOfFraction_28 : decode b_K_partOfFraction 28 = .ok (.lload_n 2, 1) := by decide +kernel
theorem d_K_partOfFraction_29 : decode b_K_partOfFraction 29 = .ok (.lconst 0, 1) := by decide +kernel
theorem d_K_partOfFraction_30 : decode b_K_partOfFraction 30 = .ok (.lcmp, 1) := by decide +kernel
theorem d_K_partOfFraction_31 : decode b_K_partOfFraction 31 = .ok (.ifCond .ge 9, 3) := by decide +kernel
theorem d_K_partOfFraction_34 : decode b_K_partOfFraction 34 = .ok (.lload 5, 2) := by decide +kernel
theorem d_K_partOfFraction_36 : decode b_K_partOfFraction 36 = .ok (.lneg, 1) := by decide +kernel
theorem d_K_partOfFraction_37 : decode b_K_partOfFraction 37 = .ok (.goto 5, 3) := by decide +kernel
theorem d_K_partOfFraction_40 : decode b_K_partOfFraction 40 = .ok (.lload 5, 2) := by decide +kernel
theorem d_K_partOfFraction_42 : decode b_K_partOfFraction 42 = .ok (.lstore 7, 2) := by decide +kernel
theorem d_K_partOfFraction_44 : decode b_K_partOfFraction 44 = .ok (.iload 4, 2) := by decide +kernel
theorem d_K_partOfFraction_46 : decode b_K_partOfFraction 46 = .ok (.ifCond .ne 7, 3) := by decide +kernel
theorem d_K_partOfFraction_49 : decode b_K_partOfFraction 49 = .ok (.lload_n 0, 1) := by decide +kernel
theorem d_K_partOfFraction_50 : decode b_K_partOfFraction 50 = .ok (.goto 4, 3) := by decide +kernel
theorem d_K_partOfFraction_53 : decode b_K_partOfFraction 53 = .ok (.lload_n 2, 1) := by decide +kernel
theorem d_K_partOfFraction_54 : decode b_K_partOfFraction 54 = .ok (.lload 7, 2) := by decide +kernel
theorem d_K_partOfFraction_56 : decode b_K_partOfFraction 56 = .ok (.ldiv, 1) := by decide +kernel
theorem d_K_partOfFraction_57 : decode b_K_partOfFraction 57 = .ok (.lreturn, 1) := by decide +kernel
theorem d_K_greatestDivisor_0 : decode b_K_greatestDivisor 0 = .ok (.lload_n 0, 1) := by decide +kernel
theorem d_K_greatestDivisor_1 : decode b_K_greatestDivisor 1 = .ok (.invokestatic 158, 3) := by decide +kernel
theorem d_K_greatestDivisor_4 : decode b_K_greatestDivisor 4 = .ok (.lstore 4, 2) := by decide +kernel
theorem d_K_greatestDivisor_6 : decode b_K_greatestDivisor 6 = .ok (.lload_n 2, 1) := by decide +kernel
theorem d_K_greatestDivisor_7 : decode b_K_greatestDivisor 7 = .ok (.invokestatic 158, 3) := by decide +kernel
theorem d_K_greatestDivisor_10 : decode b_K_greatestDivisor 10 = .ok (.lstore 6, 2) := by decide +kernel
theorem d_K_greatestDivisor_12 : decode b_K_greatestDivisor 12 = .ok (.iconst 0, 1) := by decide +kernel
theorem d_K_greatestDivisor_13 : decode b_K_greatestDivisor 13 = .ok (.istore 8, 2) := by decide +kernel
theorem d_K_greatestDivisor_15 : decode b_K_greatestDivisor 15 = .ok (.iload 8, 2) := by decide +kernel
theorem d_K_greatestDivisor_17 : decode b_K_greatestDivisor 17 = .ok (.bipush 100, 2) := by decide +kernel
theorem d_K_greatestDivisor_19 : decode b_K_greatestDivisor 19 = .ok (.if_icmp .ge 31, 3) := by decide +kernel
theorem d_K_greatestDivisor_22 : decode b_K_greatestDivisor 22 = .ok (.lload 6, 2) := by decide +kernel
theorem d_K_greatestDivisor_24 : decode b_K_greatestDivisor 24 = .ok (.lconst 0, 1) := by decide +kernel
theorem d_K_greatestDivisor_25 : decode b_K_greatestDivisor 25 = .ok (.lcmp, 1) := by decide +kernel
theorem d_K_greatestDivisor_26 : decode b_K_greatestDivisor 26 = .ok (.ifCond .eq 24, 3) := by decide +kernel
theorem d_K_greatestDivisor_29 : decode b_K_greatestDivisor 29 = .ok (.lload 4, 2) := by decide +kernel
theorem d_K_greatestDivisor_31 : decode b_K_greatestDivisor 31 = .ok (.lload 6, 2) := by decide +kernel
theorem d_K_greatestDivisor_33 : decode b_K_greatestDivisor 33 = .ok (.lrem, 1) := by decide +kernel
theorem d_K_greatestDivisor_34 : decode b_K_greatestDivisor 34 = .ok (.lstore 9, 2) := by decide +kernel
theorem d_K_greatestDivisor_36 : decode b_K_greatestDivisor 36 = .ok (.lload 6, 2) := by decide +kernel
theorem d_K_greatestDivisor_38 : decode b_K_greatestDivisor 38 = .ok (.lstore 4, 2) := by decide +kernel
theorem d_K_greatestDivisor_40 : decode b_K_greatestDivisor 40 = .ok (.lload 9, 2) := by decide +kernel
theorem d_K_greatestDivisor_42 : decode b_K_greatestDivisor 42 = .ok (.lstore 6, 2) := by decide +kernel
theorem d_K_greatestDivisor_44 : decode b_K_greatestDivisor 44 = .ok (.iinc 8 1, 3) := by decide +kernel
theorem d_K_greatestDivisor_47 : decode b_K_greatestDivisor 47 = .ok (.goto (-32), 3) := by decide +kernel
theorem d_K_greatestDivisor_50 : decode b_K_greatestDivisor 50 = .ok (.lload 4, 2) := by decide +kernel
theorem d_K_greatestDivisor_52 : decode b_K_greatestDivisor 52 = .ok (.lreturn, 1) := by decide +kernel
theorem d_K_below_0 : decode b_K_below 0 = .ok (.iload_n 1, 1) := by decide +kernel
theorem d_K_below_1 : decode b_K_below 1 = .ok (.i2l, 1) := by decide +kernel
theorem d_K_below_2 : decode b_K_below 2 = .ok (.sipush 2000, 3) := by decide +kernel
theorem d_K_below_5 : decode b_K_below 5 = .ok (.invokestatic 50, 3) := by decide +kernel
theorem d_K_below_8 : decode b_K_below 8 = .ok (.ifCond .ne 14, 3) := by decide +kernel
theorem d_K_below_11 : decode b_K_below 11 = .ok (.iload_n 2, 1) := by decide +kernel
theorem d_K_below_12 : decode b_K_below 12 = .ok (.iconst 1, 1) := by decide +kernel
theorem d_K_below_13 : decode b_K_below 13 = .ok (.if_icmp .lt 9, 3) := by decide +kernel
theorem d_K_below_16 : decode b_K_below 16 = .ok (.iload_n 2, 1) := by decide +kernel
theorem d_K_below_17 : decode b_K_below 17 = .ok (.bipush 100, 2) := by decide +kernel
theorem d_K_below_19 : decode b_K_below 19 = .ok (.if_icmp .le 6, 3) := by decide +kernel
theorem d_K_below_22 : decode b_K_below 22 = .ok (.bipush (-2), 2) := by decide +kernel
theorem d_K_below_24 : decode b_K_below 24 = .ok (.ireturn, 1) := by decide +kernel
theorem d_K_below_25 : decode b_K_below 25 = .ok (.iconst 1, 1) := by decide +kernel
theorem d_K_below_26 : decode b_K_below 26 = .ok (.istore_n 3, 1) := by decide +kernel
theorem d_K_below_27 : decode b_K_below 27 = .ok (.iload_n 3, 1) := by decide +kernel
theorem d_K_below_28 : decode b_K_below 28 = .ok (.aload_n 0, 1) := by decide +kernel
theorem d_K_below_29 : decode b_K_below 29 = .ok (.getfield 7, 3) := by decide +kernel
theorem d_K_below_32 : decode b_K_below 32 = .ok (.if_icmp .gt 65, 3) := by decide +kernel
theorem d_K_below_35 : decode b_K_below 35 = .ok (.iconst 1, 1) := by decide +kernel
theorem d_K_below_36 : decode b_K_below 36 = .ok (.istore 4, 2) := by decide +kernel
theorem d_K_below_38 : decode b_K_below 38 = .ok (.iload 4, 2) := by decide +kernel
theorem d_K_below_40 : decode b_K_below 40 = .ok (.aload_n 0, 1) := by decide +kernel
theorem d_K_below_41 : decode b_K_below 41 = .ok (.getfield 7, 3) := by decide +kernel
theorem d_K_below_44 : decode b_K_below 44 = .ok (.if_icmp .gt 47, 3) := by decide +kernel
theorem d_K_below_47 : decode b_K_below 47 = .ok (.aload_n 0, 1) := by decide +kernel
theorem d_K_below_48 : decode b_K_below 48 = .ok (.getfield 31, 3) := by decide +kernel
theorem d_K_below_51 : decode b_K_below 51 = .ok (.iload_n 3, 1) := by decide +kernel
theorem d_K_below_52 : decode b_K_below 52 = .ok (.iload 4, 2) := by decide +kernel
theorem d_K_below_54 : decode b_K_below 54 = .ok (.invokestatic 56, 3) := by decide +kernel
theorem d_K_below_57 : decode b_K_below 57 = .ok (.iload_n 2, 1) := by decide +kernel
theorem d_K_below_58 : decode b_K_below 58 = .ok (.i2l, 1) := by decide +kernel
theorem d_K_below_59 : decode b_K_below 59 = .ok (.aload_n 0, 1) := by decide +kernel
theorem d_K_below_60 : decode b_K_below 60 = .ok (.getfield 17, 3) := by decide +kernel
theorem d_K_below_63 : decode b_K_below 63 = .ok (.iload_n 3, 1) := by decide +kernel
theorem d_K_below_64 : decode b_K_below 64 = .ok (.iload 4, 2) := by decide +kernel
theorem d_K_below_66 : decode b_K_below 66 = .ok (.invokestatic 56, 3) := by decide +kernel
theorem d_K_below_69 : decode b_K_below 69 = .ok (.laload, 1) := by decide +kernel
theorem d_K_below_70 : decode b_K_below 70 = .ok (.lmul, 1) := by decide +kernel
theorem d_K_below_71 : decode b_K_below 71 = .ok (.iload_n 3, 1) := by decide +kernel
theorem d_K_below_72 : decode b_K_below 72 = .ok (.iload 4, 2) := by decide +kernel
theorem d_K_below_74 : decode b_K_below 74 = .ok (.if_icmp .ne 7, 3) := by decide +kernel
theorem d_K_below_77 : decode b_K_below 77 = .ok (.iload_n 1, 1) := by decide +kernel
theorem d_K_below_78 : decode b_K_below 78 = .ok (.goto 4, 3) := by decide +kernel
theorem d_K_below_81 : decode b_K_below 81 = .ok (.iconst 0, 1) := by decide +kernel
theorem d_K_below_82 : decode b_K_below 82 = .ok (.i2l, 1) := by decide +kernel
theorem d_K_below_83 : decode b_K_below 83 = .ok (.lsub, 1) := by decide +kernel
theorem d_K_below_84 : decode b_K_below 84 = .ok (.lastore, 1) := by decide +kernel
theorem d_K_below_85 : decode b_K_below 85 = .ok (.iinc 4 1, 3) := by decide +kernel
theorem d_K_below_88 : decode b_K_below 88 = .ok (.goto (-50), 3) := by decide +kernel
theorem d_K_below_91 : decode b_K_below 91 = .ok (.iinc 3 1, 3) := by decide +kernel
theorem d_K_below_94 : decode b_K_below 94 = .ok (.goto (-67), 3) := by decide +kernel
theorem d_K_below_97 : decode b_K_below 97 = .ok (.aload_n 0, 1) := by decide +kernel
theorem d_K_below_98 : decode b_K_below 98 = .ok (.getfield 27, 3) := by decide +kernel
theorem d_K_below_101 : decode b_K_below 101 = .ok (.aload_n 0, 1) := by decide +kernel
theorem d_K_below_102 : decode b_K_below 102 = .ok (.getfield 31, 3) := by decide +kernel
theorem d_K_below_105 : decode b_K_below 105 = .ok (.iconst 1, 1) := by decide +kernel
theorem d_K_below_106 : decode b_K_below 106 = .ok (.aload_n 0, 1) := by decide +kernel
theorem d_K_below_107 : decode b_K_below 107 = .ok (.getfield 7, 3) := by decide +kernel
theorem d_K_below_110 : decode b_K_below 110 = .ok (.invokevirtual 64, 3) := by decide +kernel
theorem d_K_below_113 : decode b_K_below 113 = .ok (.aload_n 0, 1) := by decide +kernel
theorem d_K_below_114 : decode b_K_below 114 = .ok (.getfield 27, 3) := by decide +kernel
theorem d_K_below_117 : decode b_K_below 117 = .ok (.invokevirtual 72, 3) := by decide +kernel
theorem d_K_below_120 : decode b_K_below 120 = .ok (.ireturn, 1) := by decide +kernel
theorem d_K_unlike_0 : decode b_K_unlike 0 = .ok (.aload_n 0, 1) := by decide +kernel
theorem d_K_unlike_1 : decode b_K_unlike 1 = .ok (.getfield 27, 3) := by decide +kernel
theorem d_K_unlike_4 : decode b_K_unlike 4 = .ok (.aload_n 0, 1) := by decide +kernel
theorem d_K_unlike_5 : decode b_K_unlike 5 = .ok (.getfield 17, 3) := by decide +kernel
theorem d_K_unlike_8 : decode b_K_unlike 8 = .ok (.iconst 1, 1) := by decide +kernel
theorem d_K_unlike_9 : decode b_K_unlike 9 = .ok (.aload_n 0, 1) := by decide +kernel
theorem d_K_unlike_10 : decode b_K_unlike 10 = .ok (.getfield 7, 3) := by decide +kernel
theorem d_K_unlike_13 : decode b_K_unlike 13 = .ok (.invokevirtual 64, 3) := by decide +kernel
theorem d_K_unlike_16 : decode b_K_unlike 16 = .ok (.aload_n 0, 1) := by decide +kernel
theorem d_K_unlike_17 : decode b_K_unlike 17 = .ok (.getfield 27, 3) := by decide +kernel
theorem d_K_unlike_20 : decode b_K_unlike 20 = .ok (.invokevirtual 106, 3) := by decide +kernel
theorem d_K_unlike_23 : decode b_K_unlike 23 = .ok (.ireturn, 1) := by decide +kernel
theorem d_K_at_0 : decode b_K_at 0 = .ok (.aload_n 0, 1) := by decide +kernel
theorem d_K_at_1 : decode b_K_at 1 = .ok (.iload_n 1, 1) := by decide +kernel
theorem d_K_at_2 : decode b_K_at 2 = .ok (.iload_n 2, 1) := by decide +kernel
theorem d_K_at_3 : decode b_K_at 3 = .ok (.iload_n 3, 1) := by decide +kernel
theorem d_K_at_4 : decode b_K_at 4 = .ok (.iload 4, 2) := by decide +kernel
theorem d_K_at_6 : decode b_K_at 6 = .ok (.invokevirtual 109, 3) := by decide +kernel
theorem d_K_at_9 : decode b_K_at 9 = .ok (.ifCond .ne 6, 3) := by decide +kernel
theorem d_K_at_12 : decode b_K_at 12 = .ok (.bipush (-2), 2) := by decide +kernel
theorem d_K_at_14 : decode b_K_at 14 = .ok (.ireturn, 1) := by decide +kernel
theorem d_K_at_15 : decode b_K_at 15 = .ok (.aload_n 0, 1) := by decide +kernel
theorem d_K_at_16 : decode b_K_at 16 = .ok (.aload_n 0, 1) := by decide +kernel
theorem d_K_at_17 : decode b_K_at 17 = .ok (.getfield 34, 3) := by decide +kernel
theorem d_K_at_20 : decode b_K_at 20 = .ok (.aload_n 0, 1) := by decide +kernel
theorem d_K_at_21 : decode b_K_at 21 = .ok (.getfield 34, 3) := by decide +kernel
theorem d_K_at_24 : decode b_K_at 24 = .ok (.invokevirtual 113, 3) := by decide +kernel
theorem d_K_at_27 : decode b_K_at 27 = .ok (.invokestatic 117, 3) := by decide +kernel
theorem d_K_at_30 : decode b_K_at 30 = .ok (.ireturn, 1) := by decide +kernel
theorem d_K_takePoint_0 : decode b_K_takePoint 0 = .ok (.iload 4, 2) := by decide +kernel
theorem d_K_takePoint_2 : decode b_K_takePoint 2 = .ok (.iconst 1, 1) := by decide +kernel
theorem d_K_takePoint_3 : decode b_K_takePoint 3 = .ok (.if_icmp .lt 10, 3) := by decide +kernel
theorem d_K_takePoint_6 : decode b_K_takePoint 6 = .ok (.iload 4, 2) := by decide +kernel
theorem d_K_takePoint_8 : decode b_K_takePoint 8 = .ok (.bipush 100, 2) := by decide +kernel
theorem d_K_takePoint_10 : decode b_K_takePoint 10 = .ok (.if_icmp .le 5, 3) := by decide +kernel
theorem d_K_takePoint_13 : decode b_K_takePoint 13 = .ok (.iconst 0, 1) := by decide +kernel
theorem d_K_takePoint_14 : decode b_K_takePoint 14 = .ok (.ireturn, 1) := by decide +kernel
theorem d_K_takePoint_15 : decode b_K_takePoint 15 = .ok (.aload_n 0, 1) := by decide +kernel
theorem d_K_takePoint_16 : decode b_K_takePoint 16 = .ok (.aload_n 0, 1) := by decide +kernel
theorem d_K_takePoint_17 : decode b_K_takePoint 17 = .ok (.getfield 34, 3) := by decide +kernel
theorem d_K_takePoint_20 : decode b_K_takePoint 20 = .ok (.iload 4, 2) := by decide +kernel
theorem d_K_takePoint_22 : decode b_K_takePoint 22 = .ok (.i2l, 1) := by decide +kernel
theorem d_K_takePoint_23 : decode b_K_takePoint 23 = .ok (.iload_n 1, 1) := by decide +kernel
theorem d_K_takePoint_24 : decode b_K_takePoint 24 = .ok (.i2l, 1) := by decide +kernel
theorem d_K_takePoint_25 : decode b_K_takePoint 25 = .ok (.iload_n 2, 1) := by decide +kernel
theorem d_K_takePoint_26 : decode b_K_takePoint 26 = .ok (.i2l, 1) := by decide +kernel
theorem d_K_takePoint_27 : decode b_K_takePoint 27 = .ok (.iload_n 3, 1) := by decide +kernel
theorem d_K_takePoint_28 : decode b_K_takePoint 28 = .ok (.i2l, 1) := by decide +kernel
theorem d_K_takePoint_29 : decode b_K_takePoint 29 = .ok (.invokevirtual 129, 3) := by decide +kernel
theorem d_K_takePoint_32 : decode b_K_takePoint 32 = .ok (.aload_n 0, 1) := by decide +kernel
theorem d_K_takePoint_33 : decode b_K_takePoint 33 = .ok (.getfield 34, 3) := by decide +kernel
theorem d_K_takePoint_36 : decode b_K_takePoint 36 = .ok (.sipush 1000, 3) := by decide +kernel
theorem d_K_takePoint_39 : decode b_K_takePoint 39 = .ok (.invokestatic 133, 3) := by decide +kernel
theorem d_K_takePoint_42 : decode b_K_takePoint 42 = .ok (.ifCond .ne 7, 3) := by decide +kernel
theorem d_K_takePoint_45 : decode b_K_takePoint 45 = .ok (.iconst 1, 1) := by decide +kernel
theorem d_K_takePoint_46 : decode b_K_takePoint 46 = .ok (.goto 4, 3) := by decide +kernel
theorem d_K_takePoint_49 : decode b_K_takePoint 49 = .ok (.iconst 0, 1) := by decide +kernel
theorem d_K_takePoint_50 : decode b_K_takePoint 50 = .ok (.ireturn, 1) := by decide +kernel
theorem d_K_setRow_0 : decode b_K_setRow 0 = .ok (.aload_n 1, 1) := by decide +kernel
theorem d_K_setRow_1 : decode b_K_setRow 1 = .ok (.iconst 0, 1) := by decide +kernel
theorem d_K_setRow_2 : decode b_K_setRow 2 = .ok (.lload_n 2, 1) := by decide +kernel
theorem d_K_setRow_3 : decode b_K_setRow 3 = .ok (.lastore, 1) := by decide +kernel
theorem d_K_setRow_4 : decode b_K_setRow 4 = .ok (.aload_n 1, 1) := by decide +kernel
theorem d_K_setRow_5 : decode b_K_setRow 5 = .ok (.iconst 1, 1) := by decide +kernel
theorem d_K_setRow_6 : decode b_K_setRow 6 = .ok (.lload 4, 2) := by decide +kernel
theorem d_K_setRow_8 : decode b_K_setRow 8 = .ok (.lastore, 1) := by decide +kernel
theorem d_K_setRow_9 : decode b_K_setRow 9 = .ok (.aload_n 1, 1) := by decide +kernel
theorem d_K_setRow_10 : decode b_K_setRow 10 = .ok (.iconst 2, 1) := by decide +kernel
theorem d_K_setRow_11 : decode b_K_setRow 11 = .ok (.lload 6, 2) := by decide +kernel
theorem d_K_setRow_13 : decode b_K_setRow 13 = .ok (.lastore, 1) := by decide +kernel
theorem d_K_setRow_14 : decode b_K_setRow 14 = .ok (.aload_n 1, 1) := by decide +kernel
theorem d_K_setRow_15 : decode b_K_setRow 15 = .ok (.iconst 3, 1) := by decide +kernel
theorem d_K_setRow_16 : decode b_K_setRow 16 = .ok (.aload_n 0, 1) := by decide +kernel
theorem d_K_setRow_17 : decode b_K_setRow 17 = .ok (.getfield 7, 3) := by decide +kernel
theorem d_K_setRow_20 : decode b_K_setRow 20 = .ok (.iconst 3, 1) := by decide +kernel
theorem d_K_setRow_21 : decode b_K_setRow 21 = .ok (.if_icmp .ne 8, 3) := by decide +kernel
theorem d_K_setRow_24 : decode b_K_setRow 24 = .ok (.lload 8, 2) := by decide +kernel
theorem d_K_setRow_26 : decode b_K_setRow 26 = .ok (.goto 4, 3) := by decide +kernel
theorem d_K_setRow_29 : decode b_K_setRow 29 = .ok (.lconst 0, 1) := by decide +kernel
theorem d_K_setRow_30 : decode b_K_setRow 30 = .ok (.lastore, 1) := by decide +kernel
theorem d_K_setRow_31 : decode b_K_setRow 31 = .ok (.return_, 1) := by decide +kernel
theorem d_K_isRowBeyond_0 : decode b_K_isRowBeyond 0 = .ok (.iconst 0, 1) := by decide +kernel
theorem d_K_isRowBeyond_1 : decode b_K_isRowBeyond 1 = .ok (.istore_n 2, 1) := by decide +kernel
theorem d_K_isRowBeyond_2 : decode b_K_isRowBeyond 2 = .ok (.iload_n 2, 1) := by decide +kernel
theorem d_K_isRowBeyond_3 : decode b_K_isRowBeyond 3 = .ok (.iconst 4, 1) := by decide +kernel
theorem d_K_isRowBeyond_4 : decode b_K_isRowBeyond 4 = .ok (.if_icmp .ge 21, 3) := by decide +kernel
theorem d_K_isRowBeyond_7 : decode b_K_isRowBeyond 7 = .ok (.aload_n 0, 1) := by decide +kernel
theorem d_K_isRowBeyond_8 : decode b_K_isRowBeyond 8 = .ok (.iload_n 2, 1) := by decide +kernel
theorem d_K_isRowBeyond_9 : decode b_K_isRowBeyond 9 = .ok (.laload, 1) := by decide +kernel
theorem d_K_isRowBeyond_10 : decode b_K_isRowBeyond 10 = .ok (.iload_n 1, 1) := by decide +kernel
theorem d_K_isRowBeyond_11 : decode b_K_isRowBeyond 11 = .ok (.invokestatic 50, 3) := by decide +kernel
theorem d_K_isRowBeyond_14 : decode b_K_isRowBeyond 14 = .ok (.ifCond .eq 5, 3) := by decide +kernel
theorem d_K_isRowBeyond_17 : decode b_K_isRowBeyond 17 = .ok (.iconst 1, 1) := by decide +kernel
theorem d_K_isRowBeyond_18 : decode b_K_isRowBeyond 18 = .ok (.ireturn, 1) := by decide +kernel
theorem d_K_isRowBeyond_19 : decode b_K_isRowBeyond 19 = .ok (.iinc 2 1, 3) := by decide +kernel
theorem d_K_isRowBeyond_22 : decode b_K_isRowBeyond 22 = .ok (.goto (-20), 3) := by decide +kernel
theorem d_K_isRowBeyond_25 : decode b_K_isRowBeyond 25 = .ok (.iconst 0, 1) := by decide +kernel
theorem d_K_isRowBeyond_26 : decode b_K_isRowBeyond 26 = .ok (.ireturn, 1) := by decide +kernel
theorem d_K_formOf_0 : decode b_K_formOf 0 = .ok (.lconst 0, 1) := by decide +kernel
theorem d_K_formOf_1 : decode b_K_formOf 1 = .ok (.lstore_n 3, 1) := by decide +kernel
theorem d_K_formOf_2 : decode b_K_formOf 2 = .ok (.iconst 0, 1) := by decide +kernel
theorem d_K_formOf_3 : decode b_K_formOf 3 = .ok (.istore 5, 2) := by decide +kernel
theorem d_K_formOf_5 : decode b_K_formOf 5 = .ok (.iload 5, 2) := by decide +kernel
theorem d_K_formOf_7 : decode b_K_formOf 7 = .ok (.aload_n 0, 1) := by decide +kernel
theorem d_K_formOf_8 : decode b_K_formOf 8 = .ok (.getfield 7, 3) := by decide +kernel
theorem d_K_formOf_11 : decode b_K_formOf 11 = .ok (.if_icmp .gt 24, 3) := by decide +kernel
theorem d_K_formOf_14 : decode b_K_formOf 14 = .ok (.lload_n 3, 1) := by decide +kernel
theorem d_K_formOf_15 : decode b_K_formOf 15 = .ok (.aload_n 1, 1) := by decide +kernel
theorem d_K_formOf_16 : decode b_K_formOf 16 = .ok (.iload 5, 2) := by decide +kernel
theorem d_K_formOf_18 : decode b_K_formOf 18 = .ok (.laload, 1) := by decide +kernel
theorem d_K_formOf_19 : decode b_K_formOf 19 = .ok (.aload_n 0, 1) := by decide +kernel
theorem d_K_formOf_20 : decode b_K_formOf 20 = .ok (.iload 5, 2) := by decide +kernel
theorem d_K_formOf_22 : decode b_K_formOf 22 = .ok (.aload_n 2, 1) := by decide +kernel
theorem d_K_formOf_23 : decode b_K_formOf 23 = .ok (.invokevirtual 121, 3) := by decide +kernel
theorem d_K_formOf_26 : decode b_K_formOf 26 = .ok (.lmul, 1) := by decide +kernel
theorem d_K_formOf_27 : decode b_K_formOf 27 = .ok (.ladd, 1) := by decide +kernel
theorem d_K_formOf_28 : decode b_K_formOf 28 = .ok (.lstore_n 3, 1) := by decide +kernel
theorem d_K_formOf_29 : decode b_K_formOf 29 = .ok (.iinc 5 1, 3) := by decide +kernel
theorem d_K_formOf_32 : decode b_K_formOf 32 = .ok (.goto (-27), 3) := by decide +kernel
theorem d_K_formOf_35 : decode b_K_formOf 35 = .ok (.lload_n 3, 1) := by decide +kernel
theorem d_K_formOf_36 : decode b_K_formOf 36 = .ok (.lreturn, 1) := by decide +kernel
theorem d_K_rowTimes_0 : decode b_K_rowTimes 0 = .ok (.lconst 0, 1) := by decide +kernel
theorem d_K_rowTimes_1 : decode b_K_rowTimes 1 = .ok (.lstore_n 3, 1) := by decide +kernel
theorem d_K_rowTimes_2 : decode b_K_rowTimes 2 = .ok (.iconst 0, 1) := by decide +kernel
theorem d_K_rowTimes_3 : decode b_K_rowTimes 3 = .ok (.istore 5, 2) := by decide +kernel
theorem d_K_rowTimes_5 : decode b_K_rowTimes 5 = .ok (.iload 5, 2) := by decide +kernel
theorem d_K_rowTimes_7 : decode b_K_rowTimes 7 = .ok (.aload_n 0, 1) := by decide +kernel
theorem d_K_rowTimes_8 : decode b_K_rowTimes 8 = .ok (.getfield 7, 3) := by decide +kernel
theorem d_K_rowTimes_11 : decode b_K_rowTimes 11 = .ok (.if_icmp .gt 28, 3) := by decide +kernel
theorem d_K_rowTimes_14 : decode b_K_rowTimes 14 = .ok (.lload_n 3, 1) := by decide +kernel
theorem d_K_rowTimes_15 : decode b_K_rowTimes 15 = .ok (.aload_n 0, 1) := by decide +kernel
theorem d_K_rowTimes_16 : decode b_K_rowTimes 16 = .ok (.getfield 17, 3) := by decide +kernel
theorem d_K_rowTimes_19 : decode b_K_rowTimes 19 = .ok (.iload_n 1, 1) := by decide +kernel
theorem d_K_rowTimes_20 : decode b_K_rowTimes 20 = .ok (.iload 5, 2) := by decide +kernel
theorem d_K_rowTimes_22 : decode b_K_rowTimes 22 = .ok (.invokestatic 56, 3) := by decide +kernel
theorem d_K_rowTimes_25 : decode b_K_rowTimes 25 = .ok (.laload, 1) := by decide +kernel
theorem d_K_rowTimes_26 : decode b_K_rowTimes 26 = .ok (.aload_n 2, 1) := by decide +kernel
theorem d_K_rowTimes_27 : decode b_K_rowTimes 27 = .ok (.iload 5, 2) := by decide +kernel
theorem d_K_rowTimes_29 : decode b_K_rowTimes 29 = .ok (.laload, 1) := by decide +kernel
theorem d_K_rowTimes_30 : decode b_K_rowTimes 30 = .ok (.lmul, 1) := by decide +kernel
theorem d_K_rowTimes_31 : decode b_K_rowTimes 31 = .ok (.ladd, 1) := by decide +kernel
theorem d_K_rowTimes_32 : decode b_K_rowTimes 32 = .ok (.lstore_n 3, 1) := by decide +kernel
theorem d_K_rowTimes_33 : decode b_K_rowTimes 33 = .ok (.iinc 5 1, 3) := by decide +kernel
theorem d_K_rowTimes_36 : decode b_K_rowTimes 36 = .ok (.goto (-31), 3) := by decide +kernel
theorem d_K_rowTimes_39 : decode b_K_rowTimes 39 = .ok (.lload_n 3, 1) := by decide +kernel
theorem d_K_rowTimes_40 : decode b_K_rowTimes 40 = .ok (.lreturn, 1) := by decide +kernel
theorem d_K_signCode_0 : decode b_K_signCode 0 = .ok (.lload_n 0, 1) := by decide +kernel
theorem d_K_signCode_1 : decode b_K_signCode 1 = .ok (.lconst 0, 1) := by decide +kernel
theorem d_K_signCode_2 : decode b_K_signCode 2 = .ok (.lcmp, 1) := by decide +kernel
theorem d_K_signCode_3 : decode b_K_signCode 3 = .ok (.ifCond .ne 5, 3) := by decide +kernel
theorem d_K_signCode_6 : decode b_K_signCode 6 = .ok (.iconst 1, 1) := by decide +kernel
theorem d_K_signCode_7 : decode b_K_signCode 7 = .ok (.ireturn, 1) := by decide +kernel
theorem d_K_signCode_8 : decode b_K_signCode 8 = .ok (.lload_n 0, 1) := by decide +kernel
theorem d_K_signCode_9 : decode b_K_signCode 9 = .ok (.lconst 0, 1) := by decide +kernel
theorem d_K_signCode_10 : decode b_K_signCode 10 = .ok (.lcmp, 1) := by decide +kernel
theorem d_K_signCode_11 : decode b_K_signCode 11 = .ok (.ifCond .le 7, 3) := by decide +kernel
theorem d_K_signCode_14 : decode b_K_signCode 14 = .ok (.iconst 2, 1) := by decide +kernel
theorem d_K_signCode_15 : decode b_K_signCode 15 = .ok (.goto 4, 3) := by decide +kernel
theorem d_K_signCode_18 : decode b_K_signCode 18 = .ok (.iconst 0, 1) := by decide +kernel
theorem d_K_signCode_19 : decode b_K_signCode 19 = .ok (.ireturn, 1) := by decide +kernel
theorem d_K_polar_0 : decode b_K_polar 0 = .ok (.aload_n 0, 1) := by decide +kernel
theorem d_K_polar_1 : decode b_K_polar 1 = .ok (.iload 5, 2) := by decide +kernel
theorem d_K_polar_3 : decode b_K_polar 3 = .ok (.invokevirtual 46, 3) := by decide +kernel
theorem d_K_polar_6 : decode b_K_polar 6 = .ok (.ifCond .ne 15, 3) := by decide +kernel
theorem d_K_polar_9 : decode b_K_polar 9 = .ok (.aload_n 0, 1) := by decide +kernel
theorem d_K_polar_10 : decode b_K_polar 10 = .ok (.iload_n 1, 1) := by decide +kernel
theorem d_K_polar_11 : decode b_K_polar 11 = .ok (.iload_n 2, 1) := by decide +kernel
theorem d_K_polar_12 : decode b_K_polar 12 = .ok (.iload_n 3, 1) := by decide +kernel
theorem d_K_polar_13 : decode b_K_polar 13 = .ok (.iload 4, 2) := by decide +kernel
theorem d_K_polar_15 : decode b_K_polar 15 = .ok (.invokevirtual 109, 3) := by decide +kernel
theorem d_K_polar_18 : decode b_K_polar 18 = .ok (.ifCond .ne 7, 3) := by decide +kernel
theorem d_K_polar_21 : decode b_K_polar 21 = .ok (.ldc2_w 54, 3) := by decide +kernel
theorem d_K_polar_24 : decode b_K_polar 24 = .ok (.lreturn, 1) := by decide +kernel
theorem d_K_polar_25 : decode b_K_polar 25 = .ok (.iconst 0, 1) := by decide +kernel
theorem d_K_polar_26 : decode b_K_polar 26 = .ok (.istore 6, 2) := by decide +kernel
theorem d_K_polar_28 : decode b_K_polar 28 = .ok (.iload 6, 2) := by decide +kernel
theorem d_K_polar_30 : decode b_K_polar 30 = .ok (.aload_n 0, 1) := by decide +kernel
theorem d_K_polar_31 : decode b_K_polar 31 = .ok (.getfield 7, 3) := by decide +kernel
theorem d_K_polar_34 : decode b_K_polar 34 = .ok (.if_icmp .gt 26, 3) := by decide +kernel
theorem d_K_polar_37 : decode b_K_polar 37 = .ok (.aload_n 0, 1) := by decide +kernel
theorem d_K_polar_38 : decode b_K_polar 38 = .ok (.getfield 37, 3) := by decide +kernel
theorem d_K_polar_41 : decode b_K_polar 41 = .ok (.iload 6, 2) := by decide +kernel
theorem d_K_polar_43 : decode b_K_polar 43 = .ok (.aload_n 0, 1) := by decide +kernel
theorem d_K_polar_44 : decode b_K_polar 44 = .ok (.iload 6, 2) := by decide +kernel
theorem d_K_polar_46 : decode b_K_polar 46 = .ok (.aload_n 0, 1) := by decide +kernel
theorem d_K_polar_47 : decode b_K_polar 47 = .ok (.getfield 34, 3) := by decide +kernel
theorem d_K_polar_50 : decode b_K_polar 50 = .ok (.invokevirtual 121, 3) := by decide +kernel
theorem d_K_polar_53 : decode b_K_polar 53 = .ok (.lastore, 1) := by decide +kernel
theorem d_K_polar_54 : decode b_K_polar 54 = .ok (.iinc 6 1, 3) := by decide +kernel
theorem d_K_polar_57 : decode b_K_polar 57 = .ok (.goto (-29), 3) := by decide +kernel
theorem d_K_polar_60 : decode b_K_polar 60 = .ok (.aload_n 0, 1) := by decide +kernel
theorem d_K_polar_61 : decode b_K_polar 61 = .ok (.getfield 37, 3) := by decide +kernel
theorem d_K_polar_64 : decode b_K_polar 64 = .ok (.aload_n 0, 1) := by decide +kernel
theorem d_K_polar_65 : decode b_K_polar 65 = .ok (.getfield 7, 3) := by decide +kernel
theorem d_K_polar_68 : decode b_K_polar 68 = .ok (.iconst 1, 1) := by decide +kernel
theorem d_K_polar_69 : decode b_K_polar 69 = .ok (.iadd, 1) := by decide +kernel
theorem d_K_polar_70 : decode b_K_polar 70 = .ok (.invokestatic 125, 3) := by decide +kernel
theorem d_K_polar_73 : decode b_K_polar 73 = .ok (.ifCond .eq 13, 3) := by decide +kernel
theorem d_K_polar_76 : decode b_K_polar 76 = .ok (.aload_n 0, 1) := by decide +kernel
theorem d_K_polar_77 : decode b_K_polar 77 = .ok (.getfield 37, 3) := by decide +kernel
theorem d_K_polar_80 : decode b_K_polar 80 = .ok (.iload 5, 2) := by decide +kernel
theorem d_K_polar_82 : decode b_K_polar 82 = .ok (.laload, 1) := by decide +kernel
theorem d_K_polar_83 : decode b_K_polar 83 = .ok (.goto 6, 3) := by decide +kernel
theorem d_K_polar_86 : decode b_K_polar 86 = .ok (.ldc2_w 54, 3) := by decide +kernel
theorem d_K_polar_89 : decode b_K_polar 89 = .ok (.lreturn, 1) := by decide +kernel
theorem d_K_clearDivisor_0 : decode b_K_clearDivisor 0 = .ok (.lconst 0, 1) := by decide +kernel
theorem d_K_clearDivisor_1 : decode b_K_clearDivisor 1 = .ok (.lstore_n 2, 1) := by decide +kernel
theorem d_K_clearDivisor_2 : decode b_K_clearDivisor 2 = .ok (.lconst 0, 1) := by decide +kernel
theorem d_K_clearDivisor_3 : decode b_K_clearDivisor 3 = .ok (.lstore 4, 2) := by decide +kernel
theorem d_K_clearDivisor_5 : decode b_K_clearDivisor 5 = .ok (.iconst 0, 1) := by decide +kernel
theorem d_K_clearDivisor_6 : decode b_K_clearDivisor 6 = .ok (.istore 6, 2) := by decide +kernel
theorem d_K_clearDivisor_8 : decode b_K_clearDivisor 8 = .ok (.iload 6, 2) := by decide +kernel
theorem d_K_clearDivisor_10 : decode b_K_clearDivisor 10 = .ok (.iload_n 1, 1) := by decide +kernel
theorem d_K_clearDivisor_11 : decode b_K_clearDivisor 11 = .ok (.if_icmp .ge 36, 3) := by decide +kernel
theorem d_K_clearDivisor_14 : decode b_K_clearDivisor 14 = .ok (.lload_n 2, 1) := by decide +kernel
theorem d_K_clearDivisor_15 : decode b_K_clearDivisor 15 = .ok (.aload_n 0, 1) := by decide +kernel
theorem d_K_clearDivisor_16 : decode b_K_clearDivisor 16 = .ok (.iload 6, 2) := by decide +kernel
theorem d_K_clearDivisor_18 : decode b_K_clearDivisor 18 = .ok (.laload, 1) := by decide +kernel
theorem d_K_clearDivisor_19 : decode b_K_clearDivisor 19 = .ok (.invokestatic 164, 3) := by decide +kernel
theorem d_K_clearDivisor_22 : decode b_K_clearDivisor 22 = .ok (.lstore_n 2, 1) := by decide +kernel
theorem d_K_clearDivisor_23 : decode b_K_clearDivisor 23 = .ok (.lload 4, 2) := by decide +kernel
theorem d_K_clearDivisor_25 : decode b_K_clearDivisor 25 = .ok (.lconst 0, 1) := by decide +kernel
theorem d_K_clearDivisor_26 : decode b_K_clearDivisor 26 = .ok (.lcmp, 1) := by decide +kernel
theorem d_K_clearDivisor_27 : decode b_K_clearDivisor 27 = .ok (.ifCond .ne 10, 3) := by decide +kernel
theorem d_K_clearDivisor_30 : decode b_K_clearDivisor 30 = .ok (.aload_n 0, 1) := by decide +kernel
theorem d_K_clearDivisor_31 : decode b_K_clearDivisor 31 = .ok (.iload 6, 2) := by decide +kernel
theorem d_K_clearDivisor_33 : decode b_K_clearDivisor 33 = .ok (.laload, 1) := by decide +kernel
theorem d_K_clearDivisor_34 : decode b_K_clearDivisor 34 = .ok (.goto 5, 3) := by decide +kernel
theorem d_K_clearDivisor_37 : decode b_K_clearDivisor 37 = .ok (.lload 4, 2) := by decide +kernel
theorem d_K_clearDivisor_39 : decode b_K_clearDivisor 39 = .ok (.lstore 4, 2) := by decide +kernel
theorem d_K_clearDivisor_41 : decode b_K_clearDivisor 41 = .ok (.iinc 6 1, 3) := by decide +kernel
theorem d_K_clearDivisor_44 : decode b_K_clearDivisor 44 = .ok (.goto (-36), 3) := by decide +kernel
theorem d_K_clearDivisor_47 : decode b_K_clearDivisor 47 = .ok (.lload_n 2, 1) := by decide +kernel
theorem d_K_clearDivisor_48 : decode b_K_clearDivisor 48 = .ok (.lconst 0, 1) := by decide +kernel
theorem d_K_clearDivisor_49 : decode b_K_clearDivisor 49 = .ok (.lcmp, 1) := by decide +kernel
theorem d_K_clearDivisor_50 : decode b_K_clearDivisor 50 = .ok (.ifCond .ne 5, 3) := by decide +kernel
theorem d_K_clearDivisor_53 : decode b_K_clearDivisor 53 = .ok (.iconst 0, 1) := by decide +kernel
theorem d_K_clearDivisor_54 : decode b_K_clearDivisor 54 = .ok (.ireturn, 1) := by decide +kernel
theorem d_K_clearDivisor_55 : decode b_K_clearDivisor 55 = .ok (.lload 4, 2) := by decide +kernel
theorem d_K_clearDivisor_57 : decode b_K_clearDivisor 57 = .ok (.lconst 0, 1) := by decide +kernel
theorem d_K_clearDivisor_58 : decode b_K_clearDivisor 58 = .ok (.lcmp, 1) := by decide +kernel
theorem d_K_clearDivisor_59 : decode b_K_clearDivisor 59 = .ok (.ifCond .ge 8, 3) := by decide +kernel
theorem d_K_clearDivisor_62 : decode b_K_clearDivisor 62 = .ok (.lload_n 2, 1) := by decide +kernel
theorem d_K_clearDivisor_63 : decode b_K_clearDivisor 63 = .ok (.lneg, 1) := by decide +kernel
theorem d_K_clearDivisor_64 : decode b_K_clearDivisor 64 = .ok (.goto 4, 3) := by decide +kernel
theorem d_K_clearDivisor_67 : decode b_K_clearDivisor 67 = .ok (.lload_n 2, 1) := by decide +kernel
theorem d_K_clearDivisor_68 : decode b_K_clearDivisor 68 = .ok (.lstore 6, 2) := by decide +kernel
theorem d_K_clearDivisor_70 : decode b_K_clearDivisor 70 = .ok (.iconst 0, 1) := by decide +kernel
theorem d_K_clearDivisor_71 : decode b_K_clearDivisor 71 = .ok (.istore 8, 2) := by decide +kernel
theorem d_K_clearDivisor_73 : decode b_K_clearDivisor 73 = .ok (.iload 8, 2) := by decide +kernel
theorem d_K_clearDivisor_75 : decode b_K_clearDivisor 75 = .ok (.iload_n 1, 1) := by decide +kernel
theorem d_K_clearDivisor_76 : decode b_K_clearDivisor 76 = .ok (.if_icmp .ge 18, 3) := by decide +kernel
theorem d_K_clearDivisor_79 : decode b_K_clearDivisor 79 = .ok (.aload_n 0, 1) := by decide +kernel
theorem d_K_clearDivisor_80 : decode b_K_clearDivisor 80 = .ok (.iload 8, 2) := by decide +kernel
theorem d_K_clearDivisor_82 : decode b_K_clearDivisor 82 = .ok (.dup2, 1) := by decide +kernel
theorem d_K_clearDivisor_83 : decode b_K_clearDivisor 83 = .ok (.laload, 1) := by decide +kernel
theorem d_K_clearDivisor_84 : decode b_K_clearDivisor 84 = .ok (.lload 6, 2) := by decide +kernel
theorem d_K_clearDivisor_86 : decode b_K_clearDivisor 86 = .ok (.ldiv, 1) := by decide +kernel
theorem d_K_clearDivisor_87 : decode b_K_clearDivisor 87 = .ok (.lastore, 1) := by decide +kernel
theorem d_K_clearDivisor_88 : decode b_K_clearDivisor 88 = .ok (.iinc 8 1, 3) := by decide +kernel
theorem d_K_clearDivisor_91 : decode b_K_clearDivisor 91 = .ok (.goto (-18), 3) := by decide +kernel
theorem d_K_clearDivisor_94 : decode b_K_clearDivisor 94 = .ok (.iconst 1, 1) := by decide +kernel
theorem d_K_clearDivisor_95 : decode b_K_clearDivisor 95 = .ok (.ireturn, 1) := by decide +kernel
theorem d_K_touches_0 : decode b_K_touches 0 = .ok (.aload_n 0, 1) := by decide +kernel
theorem d_K_touches_1 : decode b_K_touches 1 = .ok (.aload_n 0, 1) := by decide +kernel
theorem d_K_touches_2 : decode b_K_touches 2 = .ok (.getfield 34, 3) := by decide +kernel
theorem d_K_touches_5 : decode b_K_touches 5 = .ok (.iload_n 1, 1) := by decide +kernel
theorem d_K_touches_6 : decode b_K_touches 6 = .ok (.i2l, 1) := by decide +kernel
theorem d_K_touches_7 : decode b_K_touches 7 = .ok (.iload_n 2, 1) := by decide +kernel
theorem d_K_touches_8 : decode b_K_touches 8 = .ok (.i2l, 1) := by decide +kernel
theorem d_K_touches_9 : decode b_K_touches 9 = .ok (.iload_n 3, 1) := by decide +kernel
theorem d_K_touches_10 : decode b_K_touches 10 = .ok (.i2l, 1) := by decide +kernel
theorem d_K_touches_11 : decode b_K_touches 11 = .ok (.iload 4, 2) := by decide +kernel
theorem d_K_touches_13 : decode b_K_touches 13 = .ok (.i2l, 1) := by decide +kernel
theorem d_K_touches_14 : decode b_K_touches 14 = .ok (.invokevirtual 129, 3) := by decide +kernel
theorem d_K_touches_17 : decode b_K_touches 17 = .ok (.aload_n 0, 1) := by decide +kernel
theorem d_K_touches_18 : decode b_K_touches 18 = .ok (.getfield 34, 3) := by decide +kernel
theorem d_K_touches_21 : decode b_K_touches 21 = .ok (.bipush 20, 2) := by decide +kernel
theorem d_K_touches_23 : decode b_K_touches 23 = .ok (.invokestatic 133, 3) := by decide +kernel
theorem d_K_touches_26 : decode b_K_touches 26 = .ok (.ifCond .ne 18, 3) := by decide +kernel
theorem d_K_touches_29 : decode b_K_touches 29 = .ok (.aload_n 0, 1) := by decide +kernel
theorem d_K_touches_30 : decode b_K_touches 30 = .ok (.getfield 34, 3) := by decide +kernel
theorem d_K_touches_33 : decode b_K_touches 33 = .ok (.iconst 1, 1) := by decide +kernel
theorem d_K_touches_34 : decode b_K_touches 34 = .ok (.aload_n 0, 1) := by decide +kernel
theorem d_K_touches_35 : decode b_K_touches 35 = .ok (.getfield 7, 3) := by decide +kernel
theorem d_K_touches_38 : decode b_K_touches 38 = .ok (.invokestatic 136, 3) := by decide +kernel
theorem d_K_touches_41 : decode b_K_touches 41 = .ok (.ifCond .eq 6, 3) := by decide +kernel
theorem d_K_touches_44 : decode b_K_touches 44 = .ok (.bipush (-2), 2) := by decide +kernel
theorem d_K_touches_46 : decode b_K_touches 46 = .ok (.ireturn, 1) := by decide +kernel
theorem d_K_touches_47 : decode b_K_touches 47 = .ok (.aload_n 0, 1) := by decide +kernel
theorem d_K_touches_48 : decode b_K_touches 48 = .ok (.getfield 27, 3) := by decide +kernel
theorem d_K_touches_51 : decode b_K_touches 51 = .ok (.aload_n 0, 1) := by decide +kernel
theorem d_K_touches_52 : decode b_K_touches 52 = .ok (.getfield 17, 3) := by decide +kernel
theorem d_K_touches_55 : decode b_K_touches 55 = .ok (.iconst 0, 1) := by decide +kernel
theorem d_K_touches_56 : decode b_K_touches 56 = .ok (.aload_n 0, 1) := by decide +kernel
theorem d_K_touches_57 : decode b_K_touches 57 = .ok (.getfield 7, 3) := by decide +kernel
theorem d_K_touches_60 : decode b_K_touches 60 = .ok (.invokevirtual 64, 3) := by decide +kernel
theorem d_K_touches_63 : decode b_K_touches 63 = .ok (.aload_n 0, 1) := by decide +kernel
theorem d_K_touches_64 : decode b_K_touches 64 = .ok (.getfield 27, 3) := by decide +kernel
theorem d_K_touches_67 : decode b_K_touches 67 = .ok (.invokevirtual 82, 3) := by decide +kernel
theorem d_K_touches_70 : decode b_K_touches 70 = .ok (.lconst 0, 1) := by decide +kernel
theorem d_K_touches_71 : decode b_K_touches 71 = .ok (.lcmp, 1) := by decide +kernel
theorem d_K_touches_72 : decode b_K_touches 72 = .ok (.ifCond .ne 6, 3) := by decide +kernel
theorem d_K_touches_75 : decode b_K_touches 75 = .ok (.bipush (-3), 2) := by decide +kernel
theorem d_K_touches_77 : decode b_K_touches 77 = .ok (.ireturn, 1) := by decide +kernel
theorem d_K_touches_78 : decode b_K_touches 78 = .ok (.lconst 0, 1) := by decide +kernel
theorem d_K_touches_79 : decode b_K_touches 79 = .ok (.lstore 5, 2) := by decide +kernel
theorem d_K_touches_81 : decode b_K_touches 81 = .ok (.iconst 0, 1) := by decide +kernel
theorem d_K_touches_82 : decode b_K_touches 82 = .ok (.istore 7, 2) := by decide +kernel
theorem d_K_touches_84 : decode b_K_touches 84 = .ok (.iload 7, 2) := by decide +kernel
theorem d_K_touches_86 : decode b_K_touches 86 = .ok (.aload_n 0, 1) := by decide +kernel
theorem d_K_touches_87 : decode b_K_touches 87 = .ok (.getfield 7, 3) := by decide +kernel
theorem d_K_touches_90 : decode b_K_touches 90 = .ok (.if_icmp .gt 59, 3) := by decide +kernel
theorem d_K_touches_93 : decode b_K_touches 93 = .ok (.iconst 0, 1) := by decide +kernel
theorem d_K_touches_94 : decode b_K_touches 94 = .ok (.istore 8, 2) := by decide +kernel
theorem d_K_touches_96 : decode b_K_touches 96 = .ok (.iload 8, 2) := by decide +kernel
theorem d_K_touches_98 : decode b_K_touches 98 = .ok (.aload_n 0, 1) := by decide +kernel
theorem d_K_touches_99 : decode b_K_touches 99 = .ok (.getfield 7, 3) := by decide +kernel
theorem d_K_touches_102 : decode b_K_touches 102 = .ok (.if_icmp .gt 41, 3) := by decide +kernel
theorem d_K_touches_105 : decode b_K_touches 105 = .ok (.lload 5, 2) := by decide +kernel
theorem d_K_touches_107 : decode b_K_touches 107 = .ok (.aload_n 0, 1) := by decide +kernel
theorem d_K_touches_108 : decode b_K_touches 108 = .ok (.getfield 34, 3) := by decide +kernel
theorem d_K_touches_111 : decode b_K_touches 111 = .ok (.iload 7, 2) := by decide +kernel
theorem d_K_touches_113 : decode b_K_touches 113 = .ok (.laload, 1) := by decide +kernel
theorem d_K_touches_114 : decode b_K_touches 114 = .ok (.aload_n 0, 1) := by decide +kernel
theorem d_K_touches_115 : decode b_K_touches 115 = .ok (.getfield 27, 3) := by decide +kernel
theorem d_K_touches_118 : decode b_K_touches 118 = .ok (.iload 7, 2) := by decide +kernel
theorem d_K_touches_120 : decode b_K_touches 120 = .ok (.iload 8, 2) := by decide +kernel
theorem d_K_touches_122 : decode b_K_touches 122 = .ok (.invokevirtual 91, 3) := by decide +kernel
theorem d_K_touches_125 : decode b_K_touches 125 = .ok (.lmul, 1) := by decide +kernel
theorem d_K_touches_126 : decode b_K_touches 126 = .ok (.aload_n 0, 1) := by decide +kernel
theorem d_K_touches_127 : decode b_K_touches 127 = .ok (.getfield 34, 3) := by decide +kernel
theorem d_K_touches_130 : decode b_K_touches 130 = .ok (.iload 8, 2) := by decide +kernel
theorem d_K_touches_132 : decode b_K_touches 132 = .ok (.laload, 1) := by decide +kernel
theorem d_K_touches_133 : decode b_K_touches 133 = .ok (.lmul, 1) := by decide +kernel
theorem d_K_touches_134 : decode b_K_touches 134 = .ok (.ladd, 1) := by decide +kernel
theorem d_K_touches_135 : decode b_K_touches 135 = .ok (.lstore 5, 2) := by decide +kernel
theorem d_K_touches_137 : decode b_K_touches 137 = .ok (.iinc 8 1, 3) := by decide +kernel
theorem d_K_touches_140 : decode b_K_touches 140 = .ok (.goto (-44), 3) := by decide +kernel
theorem d_K_touches_143 : decode b_K_touches 143 = .ok (.iinc 7 1, 3) := by decide +kernel
theorem d_K_touches_146 : decode b_K_touches 146 = .ok (.goto (-62), 3) := by decide +kernel
theorem d_K_touches_149 : decode b_K_touches 149 = .ok (.lload 5, 2) := by decide +kernel
theorem d_K_touches_151 : decode b_K_touches 151 = .ok (.lconst 0, 1) := by decide +kernel
theorem d_K_touches_152 : decode b_K_touches 152 = .ok (.lcmp, 1) := by decide +kernel
theorem d_K_touches_153 : decode b_K_touches 153 = .ok (.ifCond .ne 7, 3) := by decide +kernel
theorem d_K_touches_156 : decode b_K_touches 156 = .ok (.iconst 1, 1) := by decide +kernel
theorem d_K_touches_157 : decode b_K_touches 157 = .ok (.goto 4, 3) := by decide +kernel
theorem d_K_touches_160 : decode b_K_touches 160 = .ok (.iconst 0, 1) := by decide +kernel
theorem d_K_touches_161 : decode b_K_touches 161 = .ok (.ireturn, 1) := by decide +kernel
theorem d_K_isAllZero_0 : decode b_K_isAllZero 0 = .ok (.iload_n 1, 1) := by decide +kernel
theorem d_K_isAllZero_1 : decode b_K_isAllZero 1 = .ok (.istore_n 3, 1) := by decide +kernel
theorem d_K_isAllZero_2 : decode b_K_isAllZero 2 = .ok (.iload_n 3, 1) := by decide +kernel
theorem d_K_isAllZero_3 : decode b_K_isAllZero 3 = .ok (.iload_n 2, 1) := by decide +kernel
theorem d_K_isAllZero_4 : decode b_K_isAllZero 4 = .ok (.if_icmp .gt 19, 3) := by decide +kernel
theorem d_K_isAllZero_7 : decode b_K_isAllZero 7 = .ok (.aload_n 0, 1) := by decide +kernel
theorem d_K_isAllZero_8 : decode b_K_isAllZero 8 = .ok (.iload_n 3, 1) := by decide +kernel
theorem d_K_isAllZero_9 : decode b_K_isAllZero 9 = .ok (.laload, 1) := by decide +kernel
theorem d_K_isAllZero_10 : decode b_K_isAllZero 10 = .ok (.lconst 0, 1) := by decide +kernel
theorem d_K_isAllZero_11 : decode b_K_isAllZero 11 = .ok (.lcmp, 1) := by decide +kernel
theorem d_K_isAllZero_12 : decode b_K_isAllZero 12 = .ok (.ifCond .eq 5, 3) := by decide +kernel
theorem d_K_isAllZero_15 : decode b_K_isAllZero 15 = .ok (.iconst 0, 1) := by decide +kernel
theorem d_K_isAllZero_16 : decode b_K_isAllZero 16 = .ok (.ireturn, 1) := by decide +kernel
theorem d_K_isAllZero_17 : decode b_K_isAllZero 17 = .ok (.iinc 3 1, 3) := by decide +kernel
theorem d_K_isAllZero_20 : decode b_K_isAllZero 20 = .ok (.goto (-18), 3) := by decide +kernel
theorem d_K_isAllZero_23 : decode b_K_isAllZero 23 = .ok (.iconst 1, 1) := by decide +kernel
theorem d_K_isAllZero_24 : decode b_K_isAllZero 24 = .ok (.ireturn, 1) := by decide +kernel
theorem d_K_section_0 : decode b_K_section 0 = .ok (.aload_n 0, 1) := by decide +kernel
theorem d_K_section_1 : decode b_K_section 1 = .ok (.getfield 7, 3) := by decide +kernel
theorem d_K_section_4 : decode b_K_section 4 = .ok (.iconst 2, 1) := by decide +kernel
theorem d_K_section_5 : decode b_K_section 5 = .ok (.if_icmp .ne 6, 3) := by decide +kernel
theorem d_K_section_8 : decode b_K_section 8 = .ok (.bipush (-3), 2) := by decide +kernel
theorem d_K_section_10 : decode b_K_section 10 = .ok (.ireturn, 1) := by decide +kernel
theorem d_K_section_11 : decode b_K_section 11 = .ok (.aload_n 0, 1) := by decide +kernel
theorem d_K_section_12 : decode b_K_section 12 = .ok (.aload_n 0, 1) := by decide +kernel
theorem d_K_section_13 : decode b_K_section 13 = .ok (.getfield 34, 3) := by decide +kernel
theorem d_K_section_16 : decode b_K_section 16 = .ok (.iload 4, 2) := by decide +kernel
theorem d_K_section_18 : decode b_K_section 18 = .ok (.i2l, 1) := by decide +kernel
theorem d_K_section_19 : decode b_K_section 19 = .ok (.iload_n 1, 1) := by decide +kernel
theorem d_K_section_20 : decode b_K_section 20 = .ok (.i2l, 1) := by decide +kernel
theorem d_K_section_21 : decode b_K_section 21 = .ok (.iload_n 2, 1) := by decide +kernel
theorem d_K_section_22 : decode b_K_section 22 = .ok (.i2l, 1) := by decide +kernel
theorem d_K_section_23 : decode b_K_section 23 = .ok (.iload_n 3, 1) := by decide +kernel
theorem d_K_section_24 : decode b_K_section 24 = .ok (.i2l, 1) := by decide +kernel
theorem d_K_section_25 : decode b_K_section 25 = .ok (.invokevirtual 129, 3) := by decide +kernel
theorem d_K_section_28 : decode b_K_section 28 = .ok (.aload_n 0, 1) := by decide +kernel
theorem d_K_section_29 : decode b_K_section 29 = .ok (.getfield 34, 3) := by decide +kernel
theorem d_K_section_32 : decode b_K_section 32 = .ok (.bipush 10, 2) := by decide +kernel
theorem d_K_section_34 : decode b_K_section 34 = .ok (.invokestatic 133, 3) := by decide +kernel
theorem d_K_section_37 : decode b_K_section 37 = .ok (.ifCond .ne 18, 3) := by decide +kernel
theorem d_K_section_40 : decode b_K_section 40 = .ok (.aload_n 0, 1) := by decide +kernel
theorem d_K_section_41 : decode b_K_section 41 = .ok (.getfield 34, 3) := by decide +kernel
theorem d_K_section_44 : decode b_K_section 44 = .ok (.iconst 1, 1) := by decide +kernel
theorem d_K_section_45 : decode b_K_section 45 = .ok (.aload_n 0, 1) := by decide +kernel
theorem d_K_section_46 : decode b_K_section 46 = .ok (.getfield 7, 3) := by decide +kernel
theorem d_K_section_49 : decode b_K_section 49 = .ok (.invokestatic 136, 3) := by decide +kernel
theorem d_K_section_52 : decode b_K_section 52 = .ok (.ifCond .eq 6, 3) := by decide +kernel
theorem d_K_section_55 : decode b_K_section 55 = .ok (.bipush (-2), 2) := by decide +kernel
theorem d_K_section_57 : decode b_K_section 57 = .ok (.ireturn, 1) := by decide +kernel
theorem d_K_section_58 : decode b_K_section 58 = .ok (.aload_n 0, 1) := by decide +kernel
theorem d_K_section_59 : decode b_K_section 59 = .ok (.getfield 34, 3) := by decide +kernel
theorem d_K_section_62 : decode b_K_section 62 = .ok (.iconst 0, 1) := by decide +kernel
theorem d_K_section_63 : decode b_K_section 63 = .ok (.aload_n 0, 1) := by decide +kernel
theorem d_K_section_64 : decode b_K_section 64 = .ok (.getfield 34, 3) := by decide +kernel
theorem d_K_section_67 : decode b_K_section 67 = .ok (.iconst 0, 1) := by decide +kernel
theorem d_K_section_68 : decode b_K_section 68 = .ok (.laload, 1) := by decide +kernel
theorem d_K_section_69 : decode b_K_section 69 = .ok (.lneg, 1) := by decide +kernel
theorem d_K_section_70 : decode b_K_section 70 = .ok (.lastore, 1) := by decide +kernel
theorem d_K_section_71 : decode b_K_section 71 = .ok (.aload_n 0, 1) := by decide +kernel
theorem d_K_section_72 : decode b_K_section 72 = .ok (.aload_n 0, 1) := by decide +kernel
theorem d_K_section_73 : decode b_K_section 73 = .ok (.getfield 31, 3) := by decide +kernel
theorem d_K_section_76 : decode b_K_section 76 = .ok (.iload_n 3, 1) := by decide +kernel
theorem d_K_section_77 : decode b_K_section 77 = .ok (.ifCond .eq 7, 3) := by decide +kernel
theorem d_K_section_80 : decode b_K_section 80 = .ok (.iconst 3, 1) := by decide +kernel
theorem d_K_section_81 : decode b_K_section 81 = .ok (.goto 12, 3) := by decide +kernel
theorem d_K_section_84 : decode b_K_section 84 = .ok (.iload_n 2, 1) := by decide +kernel
theorem d_K_section_85 : decode b_K_section 85 = .ok (.ifCond .eq 7, 3) := by decide +kernel
theorem d_K_section_88 : decode b_K_section 88 = .ok (.iconst 2, 1) := by decide +kernel
theorem d_K_section_89 : decode b_K_section 89 = .ok (.goto 4, 3) := by decide +kernel
theorem d_K_section_92 : decode b_K_section 92 = .ok (.iconst 1, 1) := by decide +kernel
theorem d_K_section_93 : decode b_K_section 93 = .ok (.invokevirtual 140, 3) := by decide +kernel
theorem d_K_section_96 : decode b_K_section 96 = .ok (.aload_n 0, 1) := by decide +kernel
theorem d_K_section_97 : decode b_K_section 97 = .ok (.aload_n 0, 1) := by decide +kernel
theorem d_K_section_98 : decode b_K_section 98 = .ok (.getfield 31, 3) := by decide +kernel
theorem d_K_section_101 : decode b_K_section 101 = .ok (.iconst 2, 1) := by decide +kernel
theorem d_K_section_102 : decode b_K_section 102 = .ok (.invokevirtual 60, 3) := by decide +kernel
theorem d_K_section_105 : decode b_K_section 105 = .ok (.ireturn, 1) := by decide +kernel
theorem d_K_cutInto_0 : decode b_K_cutInto 0 = .ok (.iconst 0, 1) := by decide +kernel
theorem d_K_cutInto_1 : decode b_K_cutInto 1 = .ok (.istore_n 3, 1) := by decide +kernel
theorem d_K_cutInto_2 : decode b_K_cutInto 2 = .ok (.iload_n 3, 1) := by decide +kernel
theorem d_K_cutInto_3 : decode b_K_cutInto 3 = .ok (.iconst 3, 1) := by decide +kernel
theorem d_K_cutInto_4 : decode b_K_cutInto 4 = .ok (.if_icmp .ge 64, 3) := by decide +kernel
theorem d_K_cutInto_7 : decode b_K_cutInto 7 = .ok (.iconst 0, 1) := by decide +kernel
theorem d_K_cutInto_8 : decode b_K_cutInto 8 = .ok (.istore 4, 2) := by decide +kernel
theorem d_K_cutInto_10 : decode b_K_cutInto 10 = .ok (.iload 4, 2) := by decide +kernel
theorem d_K_cutInto_12 : decode b_K_cutInto 12 = .ok (.iconst 3, 1) := by decide +kernel
theorem d_K_cutInto_13 : decode b_K_cutInto 13 = .ok (.if_icmp .ge 49, 3) := by decide +kernel
theorem d_K_cutInto_16 : decode b_K_cutInto 16 = .ok (.aload_n 1, 1) := by decide +kernel
theorem d_K_cutInto_17 : decode b_K_cutInto 17 = .ok (.iload_n 3, 1) := by decide +kernel
theorem d_K_cutInto_18 : decode b_K_cutInto 18 = .ok (.iload 4, 2) := by decide +kernel
theorem d_K_cutInto_20 : decode b_K_cutInto 20 = .ok (.invokestatic 56, 3) := by decide +kernel
theorem d_K_cutInto_23 : decode b_K_cutInto 23 = .ok (.aload_n 0, 1) := by decide +kernel
theorem d_K_cutInto_24 : decode b_K_cutInto 24 = .ok (.iload_n 3, 1) := by decide +kernel
theorem d_K_cutInto_25 : decode b_K_cutInto 25 = .ok (.iload_n 2, 1) := by decide +kernel
theorem d_K_cutInto_26 : decode b_K_cutInto 26 = .ok (.if_icmp .ge 7, 3) := by decide +kernel
theorem d_K_cutInto_29 : decode b_K_cutInto 29 = .ok (.iload_n 3, 1) := by decide +kernel
theorem d_K_cutInto_30 : decode b_K_cutInto 30 = .ok (.goto 6, 3) := by decide +kernel
theorem d_K_cutInto_33 : decode b_K_cutInto 33 = .ok (.iload_n 3, 1) := by decide +kernel
theorem d_K_cutInto_34 : decode b_K_cutInto 34 = .ok (.iconst 1, 1) := by decide +kernel
theorem d_K_cutInto_35 : decode b_K_cutInto 35 = .ok (.iadd, 1) := by decide +kernel
theorem d_K_cutInto_36 : decode b_K_cutInto 36 = .ok (.iload 4, 2) := by decide +kernel
theorem d_K_cutInto_38 : decode b_K_cutInto 38 = .ok (.iload_n 2, 1) := by decide +kernel
theorem d_K_cutInto_39 : decode b_K_cutInto 39 = .ok (.if_icmp .ge 8, 3) := by decide +kernel
theorem d_K_cutInto_42 : decode b_K_cutInto 42 = .ok (.iload 4, 2) := by decide +kernel
theorem d_K_cutInto_44 : decode b_K_cutInto 44 = .ok (.goto 7, 3) := by decide +kernel
theorem d_K_cutInto_47 : decode b_K_cutInto 47 = .ok (.iload 4, 2) := by decide +kernel
theorem d_K_cutInto_49 : decode b_K_cutInto 49 = .ok (.iconst 1, 1) := by decide +kernel
theorem d_K_cutInto_50 : decode b_K_cutInto 50 = .ok (.iadd, 1) := by decide +kernel
theorem d_K_cutInto_51 : decode b_K_cutInto 51 = .ok (.iload_n 2, 1) := by decide +kernel
theorem d_K_cutInto_52 : decode b_K_cutInto 52 = .ok (.invokevirtual 178, 3) := by decide +kernel
theorem d_K_cutInto_55 : decode b_K_cutInto 55 = .ok (.lastore, 1) := by decide +kernel
theorem d_K_cutInto_56 : decode b_K_cutInto 56 = .ok (.iinc 4 1, 3) := by decide +kernel
theorem d_K_cutInto_59 : decode b_K_cutInto 59 = .ok (.goto (-49), 3) := by decide +kernel
theorem d_K_cutInto_62 : decode b_K_cutInto 62 = .ok (.iinc 3 1, 3) := by decide +kernel
theorem d_K_cutInto_65 : decode b_K_cutInto 65 = .ok (.goto (-63), 3) := by decide +kernel
theorem d_K_cutInto_68 : decode b_K_cutInto 68 = .ok (.return_, 1) := by decide +kernel
theorem d_K_cutCell_0 : decode b_K_cutCell 0 = .ok (.aload_n 0, 1) := by decide +kernel
theorem d_K_cutCell_1 : decode b_K_cutCell 1 = .ok (.getfield 34, 3) := by decide +kernel
theorem d_K_cutCell_4 : decode b_K_cutCell 4 = .ok (.iload_n 3, 1) := by decide +kernel
theorem d_K_cutCell_5 : decode b_K_cutCell 5 = .ok (.laload, 1) := by decide +kernel
theorem d_K_cutCell_6 : decode b_K_cutCell 6 = .ok (.lstore 4, 2) := by decide +kernel
theorem d_K_cutCell_8 : decode b_K_cutCell 8 = .ok (.lload 4, 2) := by decide +kernel
theorem d_K_cutCell_10 : decode b_K_cutCell 10 = .ok (.lload 4, 2) := by decide +kernel
theorem d_K_cutCell_12 : decode b_K_cutCell 12 = .ok (.lmul, 1) := by decide +kernel
theorem d_K_cutCell_13 : decode b_K_cutCell 13 = .ok (.aload_n 0, 1) := by decide +kernel
theorem d_K_cutCell_14 : decode b_K_cutCell 14 = .ok (.getfield 17, 3) := by decide +kernel
theorem d_K_cutCell_17 : decode b_K_cutCell 17 = .ok (.iload_n 1, 1) := by decide +kernel
theorem d_K_cutCell_18 : decode b_K_cutCell 18 = .ok (.iload_n 2, 1) := by decide +kernel
theorem d_K_cutCell_19 : decode b_K_cutCell 19 = .ok (.invokestatic 56, 3) := by decide +kernel
theorem d_K_cutCell_22 : decode b_K_cutCell 22 = .ok (.laload, 1) := by decide +kernel
theorem d_K_cutCell_23 : decode b_K_cutCell 23 = .ok (.lmul, 1) := by decide +kernel
theorem d_K_cutCell_24 : decode b_K_cutCell 24 = .ok (.lload 4, 2) := by decide +kernel
theorem d_K_cutCell_26 : decode b_K_cutCell 26 = .ok (.aload_n 0, 1) := by decide +kernel
theorem d_K_cutCell_27 : decode b_K_cutCell 27 = .ok (.getfield 34, 3) := by decide +kernel
theorem d_K_cutCell_30 : decode b_K_cutCell 30 = .ok (.iload_n 1, 1) := by decide +kernel
theorem d_K_cutCell_31 : decode b_K_cutCell 31 = .ok (.laload, 1) := by decide +kernel
theorem d_K_cutCell_32 : decode b_K_cutCell 32 = .ok (.lmul, 1) := by decide +kernel
theorem d_K_cutCell_33 : decode b_K_cutCell 33 = .ok (.aload_n 0, 1) := by decide +kernel
theorem d_K_cutCell_34 : decode b_K_cutCell 34 = .ok (.getfield 17, 3) := by decide +kernel
theorem d_K_cutCell_37 : decode b_K_cutCell 37 = .ok (.iload_n 3, 1) := by decide +kernel
theorem d_K_cutCell_38 : decode b_K_cutCell 38 = .ok (.iload_n 2, 1) := by decide +kernel
theorem d_K_cutCell_39 : decode b_K_cutCell 39 = .ok (.invokestatic 56, 3) := by decide +kernel
theorem d_K_cutCell_42 : decode b_K_cutCell 42 = .ok (.laload, 1) := by decide +kernel
theorem d_K_cutCell_43 : decode b_K_cutCell 43 = .ok (.lmul, 1) := by decide +kernel
theorem d_K_cutCell_44 : decode b_K_cutCell 44 = .ok (.lsub, 1) := by decide +kernel
theorem d_K_cutCell_45 : decode b_K_cutCell 45 = .ok (.lload 4, 2) := by decide +kernel
theorem d_K_cutCell_47 : decode b_K_cutCell 47 = .ok (.aload_n 0, 1) := by decide +kernel
theorem d_K_cutCell_48 : decode b_K_cutCell 48 = .ok (.getfield 34, 3) := by decide +kernel
theorem d_K_cutCell_51 : decode b_K_cutCell 51 = .ok (.iload_n 2, 1) := by decide +kernel
theorem d_K_cutCell_52 : decode b_K_cutCell 52 = .ok (.laload, 1) := by decide +kernel
theorem d_K_cutCell_53 : decode b_K_cutCell 53 = .ok (.lmul, 1) := by decide +kernel
theorem d_K_cutCell_54 : decode b_K_cutCell 54 = .ok (.aload_n 0, 1) := by decide +kernel
theorem d_K_cutCell_55 : decode b_K_cutCell 55 = .ok (.getfield 17, 3) := by decide +kernel
theorem d_K_cutCell_58 : decode b_K_cutCell 58 = .ok (.iload_n 1, 1) := by decide +kernel
theorem d_K_cutCell_59 : decode b_K_cutCell 59 = .ok (.iload_n 3, 1) := by decide +kernel
theorem d_K_cutCell_60 : decode b_K_cutCell 60 = .ok (.invokestatic 56, 3) := by decide +kernel
theorem d_K_cutCell_63 : decode b_K_cutCell 63 = .ok (.laload, 1) := by decide +kernel
theorem d_K_cutCell_64 : decode b_K_cutCell 64 = .ok (.lmul, 1) := by decide +kernel
theorem d_K_cutCell_65 : decode b_K_cutCell 65 = .ok (.lsub, 1) := by decide +kernel
theorem d_K_cutCell_66 : decode b_K_cutCell 66 = .ok (.aload_n 0, 1) := by decide +kernel
theorem d_K_cutCell_67 : decode b_K_cutCell 67 = .ok (.getfield 34, 3) := by decide +kernel
theorem d_K_cutCell_70 : decode b_K_cutCell 70 = .ok (.iload_n 1, 1) := by decide +kernel
theorem d_K_cutCell_71 : decode b_K_cutCell 71 = .ok (.laload, 1) := by decide +kernel
theorem d_K_cutCell_72 : decode b_K_cutCell 72 = .ok (.aload_n 0, 1) := by decide +kernel
theorem d_K_cutCell_73 : decode b_K_cutCell 73 = .ok (.getfield 34, 3) := by decide +kernel
theorem d_K_cutCell_76 : decode b_K_cutCell 76 = .ok (.iload_n 2, 1) := by decide +kernel
theorem d_K_cutCell_77 : decode b_K_cutCell 77 = .ok (.laload, 1) := by decide +kernel
theorem d_K_cutCell_78 : decode b_K_cutCell 78 = .ok (.lmul, 1) := by decide +kernel
theorem d_K_cutCell_79 : decode b_K_cutCell 79 = .ok (.aload_n 0, 1) := by decide +kernel
theorem d_K_cutCell_80 : decode b_K_cutCell 80 = .ok (.getfield 17, 3) := by decide +kernel
theorem d_K_cutCell_83 : decode b_K_cutCell 83 = .ok (.iload_n 3, 1) := by decide +kernel
theorem d_K_cutCell_84 : decode b_K_cutCell 84 = .ok (.iload_n 3, 1) := by decide +kernel
theorem d_K_cutCell_85 : decode b_K_cutCell 85 = .ok (.invokestatic 56, 3) := by decide +kernel
theorem d_K_cutCell_88 : decode b_K_cutCell 88 = .ok (.laload, 1) := by decide +kernel
theorem d_K_cutCell_89 : decode b_K_cutCell 89 = .ok (.lmul, 1) := by decide +kernel
theorem d_K_cutCell_90 : decode b_K_cutCell 90 = .ok (.ladd, 1) := by decide +kernel
theorem d_K_cutCell_91 : decode b_K_cutCell 91 = .ok (.lreturn, 1) := by decide +kernel
theorem d_K_meets_0 : decode b_K_meets 0 = .ok (.aload_n 0, 1) := by decide +kernel
theorem d_K_meets_1 : decode b_K_meets 1 = .ok (.aload_n 0, 1) := by decide +kernel
theorem d_K_meets_2 : decode b_K_meets 2 = .ok (.getfield 34, 3) := by decide +kernel
theorem d_K_meets_5 : decode b_K_meets 5 = .ok (.lconst 1, 1) := by decide +kernel
theorem d_K_meets_6 : decode b_K_meets 6 = .ok (.iload_n 1, 1) := by decide +kernel
theorem d_K_meets_7 : decode b_K_meets 7 = .ok (.i2l, 1) := by decide +kernel
theorem d_K_meets_8 : decode b_K_meets 8 = .ok (.iload_n 2, 1) := by decide +kernel
theorem d_K_meets_9 : decode b_K_meets 9 = .ok (.i2l, 1) := by decide +kernel
theorem d_K_meets_10 : decode b_K_meets 10 = .ok (.iload_n 3, 1) := by decide +kernel
theorem d_K_meets_11 : decode b_K_meets 11 = .ok (.i2l, 1) := by decide +kernel
theorem d_K_meets_12 : decode b_K_meets 12 = .ok (.invokevirtual 129, 3) := by decide +kernel
theorem d_K_meets_15 : decode b_K_meets 15 = .ok (.aload_n 0, 1) := by decide +kernel
theorem d_K_meets_16 : decode b_K_meets 16 = .ok (.aload_n 0, 1) := by decide +kernel
theorem d_K_meets_17 : decode b_K_meets 17 = .ok (.getfield 37, 3) := by decide +kernel
theorem d_K_meets_20 : decode b_K_meets 20 = .ok (.lconst 0, 1) := by decide +kernel
theorem d_K_meets_21 : decode b_K_meets 21 = .ok (.iload 4, 2) := by decide +kernel
theorem d_K_meets_23 : decode b_K_meets 23 = .ok (.i2l, 1) := by decide +kernel
theorem d_K_meets_24 : decode b_K_meets 24 = .ok (.iload 5, 2) := by decide +kernel
theorem d_K_meets_26 : decode b_K_meets 26 = .ok (.i2l, 1) := by decide +kernel
theorem d_K_meets_27 : decode b_K_meets 27 = .ok (.iload 6, 2) := by decide +kernel
theorem d_K_meets_29 : decode b_K_meets 29 = .ok (.i2l, 1) := by decide +kernel
theorem d_K_meets_30 : decode b_K_meets 30 = .ok (.invokevirtual 129, 3) := by decide +kernel
theorem d_K_meets_33 : decode b_K_meets 33 = .ok (.aload_n 0, 1) := by decide +kernel
theorem d_K_meets_34 : decode b_K_meets 34 = .ok (.getfield 34, 3) := by decide +kernel
theorem d_K_meets_37 : decode b_K_meets 37 = .ok (.bipush 20, 2) := by decide +kernel
theorem d_K_meets_39 : decode b_K_meets 39 = .ok (.invokestatic 133, 3) := by decide +kernel
theorem d_K_meets_42 : decode b_K_meets 42 = .ok (.ifCond .ne 30, 3) := by decide +kernel
theorem d_K_meets_45 : decode b_K_meets 45 = .ok (.aload_n 0, 1) := by decide +kernel
theorem d_K_meets_46 : decode b_K_meets 46 = .ok (.getfield 37, 3) := by decide +kernel
theorem d_K_meets_49 : decode b_K_meets 49 = .ok (.bipush 20, 2) := by decide +kernel
theorem d_K_meets_51 : decode b_K_meets 51 = .ok (.invokestatic 133, 3) := by decide +kernel
theorem d_K_meets_54 : decode b_K_meets 54 = .ok (.ifCond .ne 18, 3) := by decide +kernel
theorem d_K_meets_57 : decode b_K_meets 57 = .ok (.aload_n 0, 1) := by decide +kernel
theorem d_K_meets_58 : decode b_K_meets 58 = .ok (.getfield 37, 3) := by decide +kernel
theorem d_K_meets_61 : decode b_K_meets 61 = .ok (.iconst 1, 1) := by decide +kernel
theorem d_K_meets_62 : decode b_K_meets 62 = .ok (.aload_n 0, 1) := by decide +kernel
theorem d_K_meets_63 : decode b_K_meets 63 = .ok (.getfield 7, 3) := by decide +kernel
theorem d_K_meets_66 : decode b_K_meets 66 = .ok (.invokestatic 136, 3) := by decide +kernel
theorem d_K_meets_69 : decode b_K_meets 69 = .ok (.ifCond .eq 6, 3) := by decide +kernel
theorem d_K_meets_72 : decode b_K_meets 72 = .ok (.bipush (-2), 2) := by decide +kernel
theorem d_K_meets_74 : decode b_K_meets 74 = .ok (.ireturn, 1) := by decide +kernel
theorem d_K_meets_75 : decode b_K_meets 75 = .ok (.aload_n 0, 1) := by decide +kernel
theorem d_K_meets_76 : decode b_K_meets 76 = .ok (.aload_n 0, 1) := by decide +kernel
theorem d_K_meets_77 : decode b_K_meets 77 = .ok (.getfield 37, 3) := by decide +kernel
theorem d_K_meets_80 : decode b_K_meets 80 = .ok (.aload_n 0, 1) := by decide +kernel
theorem d_K_meets_81 : decode b_K_meets 81 = .ok (.getfield 37, 3) := by decide +kernel
theorem d_K_meets_84 : decode b_K_meets 84 = .ok (.invokevirtual 113, 3) := by decide +kernel
theorem d_K_meets_87 : decode b_K_meets 87 = .ok (.lstore 7, 2) := by decide +kernel
theorem d_K_meets_89 : decode b_K_meets 89 = .ok (.aload_n 0, 1) := by decide +kernel
theorem d_K_meets_90 : decode b_K_meets 90 = .ok (.aload_n 0, 1) := by decide +kernel
theorem d_K_meets_91 : decode b_K_meets 91 = .ok (.getfield 34, 3) := by decide +kernel
theorem d_K_meets_94 : decode b_K_meets 94 = .ok (.aload_n 0, 1) := by decide +kernel
theorem d_K_meets_95 : decode b_K_meets 95 = .ok (.getfield 37, 3) := by decide +kernel
theorem d_K_meets_98 : decode b_K_meets 98 = .ok (.invokevirtual 113, 3) := by decide +kernel
theorem d_K_meets_101 : decode b_K_meets 101 = .ok (.lstore 9, 2) := by decide +kernel
theorem d_K_meets_103 : decode b_K_meets 103 = .ok (.aload_n 0, 1) := by decide +kernel
theorem d_K_meets_104 : decode b_K_meets 104 = .ok (.aload_n 0, 1) := by decide +kernel
theorem d_K_meets_105 : decode b_K_meets 105 = .ok (.getfield 34, 3) := by decide +kernel
theorem d_K_meets_108 : decode b_K_meets 108 = .ok (.aload_n 0, 1) := by decide +kernel
theorem d_K_meets_109 : decode b_K_meets 109 = .ok (.getfield 34, 3) := by decide +kernel
theorem d_K_meets_112 : decode b_K_meets 112 = .ok (.invokevirtual 113, 3) := by decide +kernel
theorem d_K_meets_115 : decode b_K_meets 115 = .ok (.lstore 11, 2) := by decide +kernel
theorem d_K_meets_117 : decode b_K_meets 117 = .ok (.lload 7, 2) := by decide +kernel
theorem d_K_meets_119 : decode b_K_meets 119 = .ok (.lconst 0, 1) := by decide +kernel
theorem d_K_meets_120 : decode b_K_meets 120 = .ok (.lcmp, 1) := by decide +kernel
theorem d_K_meets_121 : decode b_K_meets 121 = .ok (.ifCond .eq 18, 3) := by decide +kernel
theorem d_K_meets_124 : decode b_K_meets 124 = .ok (.lload 9, 2) := by decide +kernel
theorem d_K_meets_126 : decode b_K_meets 126 = .ok (.lload 9, 2) := by decide +kernel
theorem d_K_meets_128 : decode b_K_meets 128 = .ok (.lmul, 1) := by decide +kernel
theorem d_K_meets_129 : decode b_K_meets 129 = .ok (.lload 7, 2) := by decide +kernel
theorem d_K_meets_131 : decode b_K_meets 131 = .ok (.lload 11, 2) := by decide +kernel
theorem d_K_meets_133 : decode b_K_meets 133 = .ok (.lmul, 1) := by decide +kernel
theorem d_K_meets_134 : decode b_K_meets 134 = .ok (.lsub, 1) := by decide +kernel
theorem d_K_meets_135 : decode b_K_meets 135 = .ok (.invokestatic 117, 3) := by decide +kernel
theorem d_K_meets_138 : decode b_K_meets 138 = .ok (.ireturn, 1) := by decide +kernel
theorem d_K_meets_139 : decode b_K_meets 139 = .ok (.lload 9, 2) := by decide +kernel
theorem d_K_meets_141 : decode b_K_meets 141 = .ok (.lconst 0, 1) := by decide +kernel
theorem d_K_meets_142 : decode b_K_meets 142 = .ok (.lcmp, 1) := by decide +kernel
theorem d_K_meets_143 : decode b_K_meets 143 = .ok (.ifCond .eq 5, 3) := by decide +kernel
theorem d_K_meets_146 : decode b_K_meets 146 = .ok (.iconst 1, 1) := by decide +kernel
theorem d_K_meets_147 : decode b_K_meets 147 = .ok (.ireturn, 1) := by decide +kernel
theorem d_K_meets_148 : decode b_K_meets 148 = .ok (.lload 11, 2) := by decide +kernel
theorem d_K_meets_150 : decode b_K_meets 150 = .ok (.lconst 0, 1) := by decide +kernel
theorem d_K_meets_151 : decode b_K_meets 151 = .ok (.lcmp, 1) := by decide +kernel
theorem d_K_meets_152 : decode b_K_meets 152 = .ok (.ifCond .ne 7, 3) := by decide +kernel
theorem d_K_meets_155 : decode b_K_meets 155 = .ok (.iconst 3, 1) := by decide +kernel
theorem d_K_meets_156 : decode b_K_meets 156 = .ok (.goto 4, 3) := by decide +kernel
theorem d_K_meets_159 : decode b_K_meets 159 = .ok (.iconst 0, 1) := by decide +kernel
theorem d_K_meets_160 : decode b_K_meets 160 = .ok (.ireturn, 1) := by decide +kernel
theorem d_K_line_0 : decode b_K_line 0 = .ok (.aload_n 0, 1) := by decide +kernel
theorem d_K_line_1 : decode b_K_line 1 = .ok (.getfield 7, 3) := by decide +kernel
theorem d_K_line_4 : decode b_K_line 4 = .ok (.iconst 2, 1) := by decide +kernel
theorem d_K_line_5 : decode b_K_line 5 = .ok (.if_icmp .ne 21, 3) := by decide +kernel
theorem d_K_line_8 : decode b_K_line 8 = .ok (.iload_n 1, 1) := by decide +kernel
theorem d_K_line_9 : decode b_K_line 9 = .ok (.ifCond .lt 17, 3) := by decide +kernel
theorem d_K_line_12 : decode b_K_line 12 = .ok (.iload_n 1, 1) := by decide +kernel
theorem d_K_line_13 : decode b_K_line 13 = .ok (.iconst 1, 1) := by decide +kernel
theorem d_K_line_14 : decode b_K_line 14 = .ok (.if_icmp .gt 12, 3) := by decide +kernel
theorem d_K_line_17 : decode b_K_line 17 = .ok (.iload_n 2, 1) := by decide +kernel
theorem d_K_line_18 : decode b_K_line 18 = .ok (.ifCond .lt 8, 3) := by decide +kernel
theorem d_K_line_21 : decode b_K_line 21 = .ok (.iload_n 2, 1) := by decide +kernel
theorem d_K_line_22 : decode b_K_line 22 = .ok (.iconst 2, 1) := by decide +kernel
theorem d_K_line_23 : decode b_K_line 23 = .ok (.if_icmp .le 7, 3) := by decide +kernel
theorem d_K_line_26 : decode b_K_line 26 = .ok (.ldc2_w 54, 3) := by decide +kernel
theorem d_K_line_29 : decode b_K_line 29 = .ok (.lreturn, 1) := by decide +kernel
theorem d_K_line_30 : decode b_K_line 30 = .ok (.aload_n 0, 1) := by decide +kernel
theorem d_K_line_31 : decode b_K_line 31 = .ok (.aload_n 0, 1) := by decide +kernel
theorem d_K_line_32 : decode b_K_line 32 = .ok (.aload_n 0, 1) := by decide +kernel
theorem d_K_line_33 : decode b_K_line 33 = .ok (.getfield 17, 3) := by decide +kernel
theorem d_K_line_36 : decode b_K_line 36 = .ok (.aload_n 0, 1) := by decide +kernel
theorem d_K_line_37 : decode b_K_line 37 = .ok (.getfield 7, 3) := by decide +kernel
theorem d_K_line_40 : decode b_K_line 40 = .ok (.invokevirtual 60, 3) := by decide +kernel
theorem d_K_line_43 : decode b_K_line 43 = .ok (.invokevirtual 144, 3) := by decide +kernel
theorem d_K_line_46 : decode b_K_line 46 = .ok (.istore_n 3, 1) := by decide +kernel
theorem d_K_line_47 : decode b_K_line 47 = .ok (.iload_n 1, 1) := by decide +kernel
theorem d_K_line_48 : decode b_K_line 48 = .ok (.iload_n 3, 1) := by decide +kernel
theorem d_K_line_49 : decode b_K_line 49 = .ok (.if_icmp .lt 7, 3) := by decide +kernel
theorem d_K_line_52 : decode b_K_line 52 = .ok (.ldc2_w 54, 3) := by decide +kernel
theorem d_K_line_55 : decode b_K_line 55 = .ok (.lreturn, 1) := by decide +kernel
theorem d_K_line_56 : decode b_K_line 56 = .ok (.iload_n 3, 1) := by decide +kernel
theorem d_K_line_57 : decode b_K_line 57 = .ok (.iconst 1, 1) := by decide +kernel
theorem d_K_line_58 : decode b_K_line 58 = .ok (.if_icmp .eq 26, 3) := by decide +kernel
theorem d_K_line_61 : decode b_K_line 61 = .ok (.iload_n 1, 1) := by decide +kernel
theorem d_K_line_62 : decode b_K_line 62 = .ok (.ifCond .ne 7, 3) := by decide +kernel
theorem d_K_line_65 : decode b_K_line 65 = .ok (.iconst 1, 1) := by decide +kernel
theorem d_K_line_66 : decode b_K_line 66 = .ok (.goto 4, 3) := by decide +kernel
theorem d_K_line_69 : decode b_K_line 69 = .ok (.iconst 0, 1) := by decide +kernel
theorem d_K_line_70 : decode b_K_line 70 = .ok (.aload_n 0, 1) := by decide +kernel
theorem d_K_line_71 : decode b_K_line 71 = .ok (.getfield 34, 3) := by decide +kernel
theorem d_K_line_74 : decode b_K_line 74 = .ok (.aload_n 0, 1) := by decide +kernel
theorem d_K_line_75 : decode b_K_line 75 = .ok (.getfield 37, 3) := by decide +kernel
theorem d_K_line_78 : decode b_K_line 78 = .ok (.invokestatic 148, 3) := by decide +kernel
theorem d_K_line_81 : decode b_K_line 81 = .ok (.if_icmp .ne 7, 3) := by decide +kernel
theorem d_K_line_84 : decode b_K_line 84 = .ok (.iconst 1, 1) := by decide +kernel
theorem d_K_line_85 : decode b_K_line 85 = .ok (.goto 4, 3) := by decide +kernel
theorem d_K_line_88 : decode b_K_line 88 = .ok (.iconst 0, 1) := by decide +kernel
theorem d_K_line_89 : decode b_K_line 89 = .ok (.istore 4, 2) := by decide +kernel
theorem d_K_line_91 : decode b_K_line 91 = .ok (.iload 4, 2) := by decide +kernel
theorem d_K_line_93 : decode b_K_line 93 = .ok (.ifCond .eq 12, 3) := by decide +kernel
theorem d_K_line_96 : decode b_K_line 96 = .ok (.aload_n 0, 1) := by decide +kernel
theorem d_K_line_97 : decode b_K_line 97 = .ok (.getfield 34, 3) := by decide +kernel
theorem d_K_line_100 : decode b_K_line 100 = .ok (.iload_n 2, 1) := by decide +kernel
theorem d_K_line_101 : decode b_K_line 101 = .ok (.laload, 1) := by decide +kernel
theorem d_K_line_102 : decode b_K_line 102 = .ok (.goto 9, 3) := by decide +kernel
theorem d_K_line_105 : decode b_K_line 105 = .ok (.aload_n 0, 1) := by decide +kernel
theorem d_K_line_106 : decode b_K_line 106 = .ok (.getfield 37, 3) := by decide +kernel
theorem d_K_line_109 : decode b_K_line 109 = .ok (.iload_n 2, 1) := by decide +kernel
theorem d_K_line_110 : decode b_K_line 110 = .ok (.laload, 1) := by decide +kernel
theorem d_K_line_111 : decode b_K_line 111 = .ok (.lreturn, 1) := by decide +kernel
theorem d_K_takeLines_0 : decode b_K_takeLines 0 = .ok (.iload_n 1, 1) := by decide +kernel
theorem d_K_takeLines_1 : decode b_K_takeLines 1 = .ok (.tableswitch 160 5 9 #[140, 140, 35, 160, 99], 35) := by decide +kernel
theorem d_K_takeLines_36 : decode b_K_takeLines 36 = .ok (.aload_n 0, 1) := by decide +kernel
theorem d_K_takeLines_37 : decode b_K_takeLines 37 = .ok (.aload_n 0, 1) := by decide +kernel
theorem d_K_takeLines_38 : decode b_K_takeLines 38 = .ok (.getfield 34, 3) := by decide +kernel
theorem d_K_takeLines_41 : decode b_K_takeLines 41 = .ok (.aload_n 0, 1) := by decide +kernel
theorem d_K_takeLines_42 : decode b_K_takeLines 42 = .ok (.getfield 17, 3) := by decide +kernel
theorem d_K_takeLines_45 : decode b_K_takeLines 45 = .ok (.iconst 0, 1) := by decide +kernel
theorem d_K_takeLines_46 : decode b_K_takeLines 46 = .ok (.iconst 0, 1) := by decide +kernel
theorem d_K_takeLines_47 : decode b_K_takeLines 47 = .ok (.invokestatic 56, 3) := by decide +kernel
theorem d_K_takeLines_50 : decode b_K_takeLines 50 = .ok (.laload, 1) := by decide +kernel
theorem d_K_takeLines_51 : decode b_K_takeLines 51 = .ok (.ldc2_w 182, 3) := by decide +kernel
theorem d_K_takeLines_54 : decode b_K_takeLines 54 = .ok (.aload_n 0, 1) := by decide +kernel
theorem d_K_takeLines_55 : decode b_K_takeLines 55 = .ok (.getfield 17, 3) := by decide +kernel
theorem d_K_takeLines_58 : decode b_K_takeLines 58 = .ok (.iconst 0, 1) := by decide +kernel
theorem d_K_takeLines_59 : decode b_K_takeLines 59 = .ok (.iconst 1, 1) := by decide +kernel
theorem d_K_takeLines_60 : decode b_K_takeLines 60 = .ok (.invokestatic 56, 3) := by decide +kernel
theorem d_K_takeLines_63 : decode b_K_takeLines 63 = .ok (.laload, 1) := by decide +kernel
theorem d_K_takeLines_64 : decode b_K_takeLines 64 = .ok (.lmul, 1) := by decide +kernel
theorem d_K_takeLines_65 : decode b_K_takeLines 65 = .ok (.ldc2_w 182, 3) := by decide +kernel
theorem d_K_takeLines_68 : decode b_K_takeLines 68 = .ok (.aload_n 0, 1) := by decide +kernel
theorem d_K_takeLines_69 : decode b_K_takeLines 69 = .ok (.getfield 17, 3) := by decide +kernel
theorem d_K_takeLines_72 : decode b_K_takeLines 72 = .ok (.iconst 0, 1) := by decide +kernel
theorem d_K_takeLines_73 : decode b_K_takeLines 73 = .ok (.iconst 2, 1) := by decide +kernel
theorem d_K_takeLines_74 : decode b_K_takeLines 74 = .ok (.invokestatic 56, 3) := by decide +kernel
theorem d_K_takeLines_77 : decode b_K_takeLines 77 = .ok (.laload, 1) := by decide +kernel
theorem d_K_takeLines_78 : decode b_K_takeLines 78 = .ok (.lmul, 1) := by decide +kernel
theorem d_K_takeLines_79 : decode b_K_takeLines 79 = .ok (.lconst 0, 1) := by decide +kernel
theorem d_K_takeLines_80 : decode b_K_takeLines 80 = .ok (.invokevirtual 129, 3) := by decide +kernel
theorem d_K_takeLines_83 : decode b_K_takeLines 83 = .ok (.aload_n 0, 1) := by decide +kernel
theorem d_K_takeLines_84 : decode b_K_takeLines 84 = .ok (.getfield 34, 3) := by decide +kernel
theorem d_K_takeLines_87 : decode b_K_takeLines 87 = .ok (.iconst 3, 1) := by decide +kernel
theorem d_K_takeLines_88 : decode b_K_takeLines 88 = .ok (.invokestatic 125, 3) := by decide +kernel
theorem d_K_takeLines_91 : decode b_K_takeLines 91 = .ok (.ifCond .eq 7, 3) := by decide +kernel
theorem d_K_takeLines_94 : decode b_K_takeLines 94 = .ok (.iconst 1, 1) := by decide +kernel
theorem d_K_takeLines_95 : decode b_K_takeLines 95 = .ok (.goto 4, 3) := by decide +kernel
theorem d_K_takeLines_98 : decode b_K_takeLines 98 = .ok (.iconst 0, 1) := by decide +kernel
theorem d_K_takeLines_99 : decode b_K_takeLines 99 = .ok (.ireturn, 1) := by decide +kernel
theorem d_K_takeLines_100 : decode b_K_takeLines 100 = .ok (.aload_n 0, 1) := by decide +kernel
theorem d_K_takeLines_101 : decode b_K_takeLines 101 = .ok (.aload_n 0, 1) := by decide +kernel
theorem d_K_takeLines_102 : decode b_K_takeLines 102 = .ok (.getfield 17, 3) := by decide +kernel
theorem d_K_takeLines_105 : decode b_K_takeLines 105 = .ok (.iconst 1, 1) := by decide +kernel
theorem d_K_takeLines_106 : decode b_K_takeLines 106 = .ok (.iconst 1, 1) := by decide +kernel
theorem d_K_takeLines_107 : decode b_K_takeLines 107 = .ok (.invokestatic 56, 3) := by decide +kernel
theorem d_K_takeLines_110 : decode b_K_takeLines 110 = .ok (.laload, 1) := by decide +kernel
theorem d_K_takeLines_111 : decode b_K_takeLines 111 = .ok (.lconst 0, 1) := by decide +kernel
theorem d_K_takeLines_112 : decode b_K_takeLines 112 = .ok (.lcmp, 1) := by decide +kernel
theorem d_K_takeLines_113 : decode b_K_takeLines 113 = .ok (.ifCond .eq 7, 3) := by decide +kernel
theorem d_K_takeLines_116 : decode b_K_takeLines 116 = .ok (.iconst 1, 1) := by decide +kernel
theorem d_K_takeLines_117 : decode b_K_takeLines 117 = .ok (.goto 4, 3) := by decide +kernel
theorem d_K_takeLines_120 : decode b_K_takeLines 120 = .ok (.iconst 2, 1) := by decide +kernel
theorem d_K_takeLines_121 : decode b_K_takeLines 121 = .ok (.invokevirtual 184, 3) := by decide +kernel
theorem d_K_takeLines_124 : decode b_K_takeLines 124 = .ok (.aload_n 0, 1) := by decide +kernel
theorem d_K_takeLines_125 : decode b_K_takeLines 125 = .ok (.getfield 34, 3) := by decide +kernel
theorem d_K_takeLines_128 : decode b_K_takeLines 128 = .ok (.iconst 3, 1) := by decide +kernel
theorem d_K_takeLines_129 : decode b_K_takeLines 129 = .ok (.invokestatic 125, 3) := by decide +kernel
theorem d_K_takeLines_132 : decode b_K_takeLines 132 = .ok (.ifCond .eq 7, 3) := by decide +kernel
theorem d_K_takeLines_135 : decode b_K_takeLines 135 = .ok (.iconst 1, 1) := by decide +kernel
theorem d_K_takeLines_136 : decode b_K_takeLines 136 = .ok (.goto 4, 3) := by decide +kernel
theorem d_K_takeLines_139 : decode b_K_takeLines 139 = .ok (.iconst 0, 1) := by decide +kernel
theorem d_K_takeLines_140 : decode b_K_takeLines 140 = .ok (.ireturn, 1) := by decide +kernel
theorem d_K_takeLines_141 : decode b_K_takeLines 141 = .ok (.aload_n 0, 1) := by decide +kernel
theorem d_K_takeLines_142 : decode b_K_takeLines 142 = .ok (.invokevirtual 188, 3) := by decide +kernel
theorem d_K_takeLines_145 : decode b_K_takeLines 145 = .ok (.ifCond .eq 14, 3) := by decide +kernel
theorem d_K_takeLines_148 : decode b_K_takeLines 148 = .ok (.aload_n 0, 1) := by decide +kernel
theorem d_K_takeLines_149 : decode b_K_takeLines 149 = .ok (.invokevirtual 192, 3) := by decide +kernel
theorem d_K_takeLines_152 : decode b_K_takeLines 152 = .ok (.ifCond .eq 7, 3) := by decide +kernel
theorem d_K_takeLines_155 : decode b_K_takeLines 155 = .ok (.iconst 2, 1) := by decide +kernel
theorem d_K_takeLines_156 : decode b_K_takeLines 156 = .ok (.goto 4, 3) := by decide +kernel
theorem d_K_takeLines_159 : decode b_K_takeLines 159 = .ok (.iconst 0, 1) := by decide +kernel
theorem d_K_takeLines_160 : decode b_K_takeLines 160 = .ok (.ireturn, 1) := by decide +kernel
theorem d_K_takeLines_161 : decode b_K_takeLines 161 = .ok (.iconst 0, 1) := by decide +kernel
theorem d_K_takeLines_162 : decode b_K_takeLines 162 = .ok (.ireturn, 1) := by decide +kernel
theorem d_K_takeFormRow_0 : decode b_K_takeFormRow 0 = .ok (.aload_n 0, 1) := by decide +kernel
theorem d_K_takeFormRow_1 : decode b_K_takeFormRow 1 = .ok (.aload_n 0, 1) := by decide +kernel
theorem d_K_takeFormRow_2 : decode b_K_takeFormRow 2 = .ok (.getfield 34, 3) := by decide +kernel
theorem d_K_takeFormRow_5 : decode b_K_takeFormRow 5 = .ok (.aload_n 0, 1) := by decide +kernel
theorem d_K_takeFormRow_6 : decode b_K_takeFormRow 6 = .ok (.getfield 17, 3) := by decide +kernel
theorem d_K_takeFormRow_9 : decode b_K_takeFormRow 9 = .ok (.iload_n 1, 1) := by decide +kernel
theorem d_K_takeFormRow_10 : decode b_K_takeFormRow 10 = .ok (.iconst 0, 1) := by decide +kernel
theorem d_K_takeFormRow_11 : decode b_K_takeFormRow 11 = .ok (.invokestatic 56, 3) := by decide +kernel
theorem d_K_takeFormRow_14 : decode b_K_takeFormRow 14 = .ok (.laload, 1) := by decide +kernel
theorem d_K_takeFormRow_15 : decode b_K_takeFormRow 15 = .ok (.aload_n 0, 1) := by decide +kernel
theorem d_K_takeFormRow_16 : decode b_K_takeFormRow 16 = .ok (.getfield 17, 3) := by decide +kernel
theorem d_K_takeFormRow_19 : decode b_K_takeFormRow 19 = .ok (.iload_n 1, 1) := by decide +kernel
theorem d_K_takeFormRow_20 : decode b_K_takeFormRow 20 = .ok (.iconst 1, 1) := by decide +kernel
theorem d_K_takeFormRow_21 : decode b_K_takeFormRow 21 = .ok (.invokestatic 56, 3) := by decide +kernel
theorem d_K_takeFormRow_24 : decode b_K_takeFormRow 24 = .ok (.laload, 1) := by decide +kernel
theorem d_K_takeFormRow_25 : decode b_K_takeFormRow 25 = .ok (.aload_n 0, 1) := by decide +kernel
theorem d_K_takeFormRow_26 : decode b_K_takeFormRow 26 = .ok (.getfield 17, 3) := by decide +kernel
theorem d_K_takeFormRow_29 : decode b_K_takeFormRow 29 = .ok (.iload_n 1, 1) := by decide +kernel
theorem d_K_takeFormRow_30 : decode b_K_takeFormRow 30 = .ok (.iconst 2, 1) := by decide +kernel
theorem d_K_takeFormRow_31 : decode b_K_takeFormRow 31 = .ok (.invokestatic 56, 3) := by decide +kernel
theorem d_K_takeFormRow_34 : decode b_K_takeFormRow 34 = .ok (.laload, 1) := by decide +kernel
theorem d_K_takeFormRow_35 : decode b_K_takeFormRow 35 = .ok (.lconst 0, 1) := by decide +kernel
theorem d_K_takeFormRow_36 : decode b_K_takeFormRow 36 = .ok (.invokevirtual 129, 3) := by decide +kernel
theorem d_K_takeFormRow_39 : decode b_K_takeFormRow 39 = .ok (.return_, 1) := by decide +kernel
theorem d_K_joinLines_0 : decode b_K_joinLines 0 = .ok (.aload_n 0, 1) := by decide +kernel
theorem d_K_joinLines_1 : decode b_K_joinLines 1 = .ok (.getfield 27, 3) := by decide +kernel
theorem d_K_joinLines_4 : decode b_K_joinLines 4 = .ok (.aload_n 0, 1) := by decide +kernel
theorem d_K_joinLines_5 : decode b_K_joinLines 5 = .ok (.getfield 17, 3) := by decide +kernel
theorem d_K_joinLines_8 : decode b_K_joinLines 8 = .ok (.iconst 0, 1) := by decide +kernel
theorem d_K_joinLines_9 : decode b_K_joinLines 9 = .ok (.iconst 2, 1) := by decide +kernel
theorem d_K_joinLines_10 : decode b_K_joinLines 10 = .ok (.invokevirtual 64, 3) := by decide +kernel
theorem d_K_joinLines_13 : decode b_K_joinLines 13 = .ok (.iconst 0, 1) := by decide +kernel
theorem d_K_joinLines_14 : decode b_K_joinLines 14 = .ok (.istore_n 1, 1) := by decide +kernel
theorem d_K_joinLines_15 : decode b_K_joinLines 15 = .ok (.iload_n 1, 1) := by decide +kernel
theorem d_K_joinLines_16 : decode b_K_joinLines 16 = .ok (.iconst 2, 1) := by decide +kernel
theorem d_K_joinLines_17 : decode b_K_joinLines 17 = .ok (.if_icmp .ge 23, 3) := by decide +kernel
theorem d_K_joinLines_20 : decode b_K_joinLines 20 = .ok (.aload_n 0, 1) := by decide +kernel
theorem d_K_joinLines_21 : decode b_K_joinLines 21 = .ok (.getfield 27, 3) := by decide +kernel
theorem d_K_joinLines_24 : decode b_K_joinLines 24 = .ok (.iload_n 1, 1) := by decide +kernel
theorem d_K_joinLines_25 : decode b_K_joinLines 25 = .ok (.iload_n 1, 1) := by decide +kernel
theorem d_K_joinLines_26 : decode b_K_joinLines 26 = .ok (.invokevirtual 91, 3) := by decide +kernel
theorem d_K_joinLines_29 : decode b_K_joinLines 29 = .ok (.lconst 0, 1) := by decide +kernel
theorem d_K_joinLines_30 : decode b_K_joinLines 30 = .ok (.lcmp, 1) := by decide +kernel
theorem d_K_joinLines_31 : decode b_K_joinLines 31 = .ok (.ifCond .ne 9, 3) := by decide +kernel
theorem d_K_joinLines_34 : decode b_K_joinLines 34 = .ok (.iinc 1 1, 3) := by decide +kernel
theorem d_K_joinLines_37 : decode b_K_joinLines 37 = .ok (.goto (-22), 3) := by decide +kernel
theorem d_K_joinLines_40 : decode b_K_joinLines 40 = .ok (.aload_n 0, 1) := by decide +kernel
theorem d_K_joinLines_41 : decode b_K_joinLines 41 = .ok (.getfield 27, 3) := by decide +kernel
theorem d_K_joinLines_44 : decode b_K_joinLines 44 = .ok (.iload_n 1, 1) := by decide +kernel
theorem d_K_joinLines_45 : decode b_K_joinLines 45 = .ok (.iload_n 1, 1) := by decide +kernel
theorem d_K_joinLines_46 : decode b_K_joinLines 46 = .ok (.invokevirtual 91, 3) := by decide +kernel
theorem d_K_joinLines_49 : decode b_K_joinLines 49 = .ok (.lneg, 1) := by decide +kernel
theorem d_K_joinLines_50 : decode b_K_joinLines 50 = .ok (.invokestatic 195, 3) := by decide +kernel
theorem d_K_joinLines_53 : decode b_K_joinLines 53 = .ok (.istore_n 2, 1) := by decide +kernel
theorem d_K_joinLines_54 : decode b_K_joinLines 54 = .ok (.iload_n 2, 1) := by decide +kernel
theorem d_K_joinLines_55 : decode b_K_joinLines 55 = .ok (.ifCond .ne 5, 3) := by decide +kernel
theorem d_K_joinLines_58 : decode b_K_joinLines 58 = .ok (.iconst 0, 1) := by decide +kernel
theorem d_K_joinLines_59 : decode b_K_joinLines 59 = .ok (.ireturn, 1) := by decide +kernel
theorem d_K_joinLines_60 : decode b_K_joinLines 60 = .ok (.iconst 0, 1) := by decide +kernel
theorem d_K_joinLines_61 : decode b_K_joinLines 61 = .ok (.istore_n 3, 1) := by decide +kernel
theorem d_K_joinLines_62 : decode b_K_joinLines 62 = .ok (.iload_n 3, 1) := by decide +kernel
theorem d_K_joinLines_63 : decode b_K_joinLines 63 = .ok (.iconst 3, 1) := by decide +kernel
theorem d_K_joinLines_64 : decode b_K_joinLines 64 = .ok (.if_icmp .ge 49, 3) := by decide +kernel
theorem d_K_joinLines_67 : decode b_K_joinLines 67 = .ok (.iconst 0, 1) := by decide +kernel
theorem d_K_joinLines_68 : decode b_K_joinLines 68 = .ok (.istore 4, 2) := by decide +kernel
theorem d_K_joinLines_70 : decode b_K_joinLines 70 = .ok (.iload 4, 2) := by decide +kernel
theorem d_K_joinLines_72 : decode b_K_joinLines 72 = .ok (.iconst 3, 1) := by decide +kernel
theorem d_K_joinLines_73 : decode b_K_joinLines 73 = .ok (.if_icmp .ge 34, 3) := by decide +kernel
theorem d_K_joinLines_76 : decode b_K_joinLines 76 = .ok (.aload_n 0, 1) := by decide +kernel
theorem d_K_joinLines_77 : decode b_K_joinLines 77 = .ok (.getfield 31, 3) := by decide +kernel
theorem d_K_joinLines_80 : decode b_K_joinLines 80 = .ok (.iload_n 3, 1) := by decide +kernel
theorem d_K_joinLines_81 : decode b_K_joinLines 81 = .ok (.iload 4, 2) := by decide +kernel
theorem d_K_joinLines_83 : decode b_K_joinLines 83 = .ok (.invokestatic 56, 3) := by decide +kernel
theorem d_K_joinLines_86 : decode b_K_joinLines 86 = .ok (.iload_n 2, 1) := by decide +kernel
theorem d_K_joinLines_87 : decode b_K_joinLines 87 = .ok (.i2l, 1) := by decide +kernel
theorem d_K_joinLines_88 : decode b_K_joinLines 88 = .ok (.aload_n 0, 1) := by decide +kernel
theorem d_K_joinLines_89 : decode b_K_joinLines 89 = .ok (.getfield 17, 3) := by decide +kernel
theorem d_K_joinLines_92 : decode b_K_joinLines 92 = .ok (.iload_n 3, 1) := by decide +kernel
theorem d_K_joinLines_93 : decode b_K_joinLines 93 = .ok (.iload 4, 2) := by decide +kernel
theorem d_K_joinLines_95 : decode b_K_joinLines 95 = .ok (.invokestatic 56, 3) := by decide +kernel
theorem d_K_joinLines_98 : decode b_K_joinLines 98 = .ok (.laload, 1) := by decide +kernel
theorem d_K_joinLines_99 : decode b_K_joinLines 99 = .ok (.lmul, 1) := by decide +kernel
theorem d_K_joinLines_100 : decode b_K_joinLines 100 = .ok (.lastore, 1) := by decide +kernel
theorem d_K_joinLines_101 : decode b_K_joinLines 101 = .ok (.iinc 4 1, 3) := by decide +kernel
theorem d_K_joinLines_104 : decode b_K_joinLines 104 = .ok (.goto (-34), 3) := by decide +kernel
theorem d_K_joinLines_107 : decode b_K_joinLines 107 = .ok (.iinc 3 1, 3) := by decide +kernel
theorem d_K_joinLines_110 : decode b_K_joinLines 110 = .ok (.goto (-48), 3) := by decide +kernel
theorem d_K_joinLines_113 : decode b_K_joinLines 113 = .ok (.aload_n 0, 1) := by decide +kernel
theorem d_K_joinLines_114 : decode b_K_joinLines 114 = .ok (.aload_n 0, 1) := by decide +kernel
theorem d_K_joinLines_115 : decode b_K_joinLines 115 = .ok (.getfield 27, 3) := by decide +kernel
theorem d_K_joinLines_118 : decode b_K_joinLines 118 = .ok (.iload_n 1, 1) := by decide +kernel
theorem d_K_joinLines_119 : decode b_K_joinLines 119 = .ok (.iconst 0, 1) := by decide +kernel
theorem d_K_joinLines_120 : decode b_K_joinLines 120 = .ok (.invokevirtual 91, 3) := by decide +kernel
theorem d_K_joinLines_123 : decode b_K_joinLines 123 = .ok (.aload_n 0, 1) := by decide +kernel
theorem d_K_joinLines_124 : decode b_K_joinLines 124 = .ok (.getfield 27, 3) := by decide +kernel
theorem d_K_joinLines_127 : decode b_K_joinLines 127 = .ok (.iload_n 1, 1) := by decide +kernel
theorem d_K_joinLines_128 : decode b_K_joinLines 128 = .ok (.iconst 1, 1) := by decide +kernel
theorem d_K_joinLines_129 : decode b_K_joinLines 129 = .ok (.invokevirtual 91, 3) := by decide +kernel
theorem d_K_joinLines_132 : decode b_K_joinLines 132 = .ok (.aload_n 0, 1) := by decide +kernel
theorem d_K_joinLines_133 : decode b_K_joinLines 133 = .ok (.getfield 27, 3) := by decide +kernel
theorem d_K_joinLines_136 : decode b_K_joinLines 136 = .ok (.iload_n 1, 1) := by decide +kernel
theorem d_K_joinLines_137 : decode b_K_joinLines 137 = .ok (.iconst 2, 1) := by decide +kernel
theorem d_K_joinLines_138 : decode b_K_joinLines 138 = .ok (.invokevirtual 91, 3) := by decide +kernel
theorem d_K_joinLines_141 : decode b_K_joinLines 141 = .ok (.invokevirtual 198, 3) := by decide +kernel
theorem d_K_joinLines_144 : decode b_K_joinLines 144 = .ok (.iconst 1, 1) := by decide +kernel
theorem d_K_joinLines_145 : decode b_K_joinLines 145 = .ok (.ireturn, 1) := by decide +kernel
theorem d_K_rootOf_0 : decode b_K_rootOf 0 = .ok (.iconst 1, 1) := by decide +kernel
theorem d_K_rootOf_1 : decode b_K_rootOf 1 = .ok (.istore_n 2, 1) := by decide +kernel
theorem d_K_rootOf_2 : decode b_K_rootOf 2 = .ok (.iload_n 2, 1) := by decide +kernel
theorem d_K_rootOf_3 : decode b_K_rootOf 3 = .ok (.bipush 28, 2) := by decide +kernel
theorem d_K_rootOf_5 : decode b_K_rootOf 5 = .ok (.if_icmp .gt 21, 3) := by decide +kernel
theorem d_K_rootOf_8 : decode b_K_rootOf 8 = .ok (.iload_n 2, 1) := by decide +kernel
theorem d_K_rootOf_9 : decode b_K_rootOf 9 = .ok (.i2l, 1) := by decide +kernel
theorem d_K_rootOf_10 : decode b_K_rootOf 10 = .ok (.iload_n 2, 1) := by decide +kernel
theorem d_K_rootOf_11 : decode b_K_rootOf 11 = .ok (.i2l, 1) := by decide +kernel
theorem d_K_rootOf_12 : decode b_K_rootOf 12 = .ok (.lmul, 1) := by decide +kernel
theorem d_K_rootOf_13 : decode b_K_rootOf 13 = .ok (.lload_n 0, 1) := by decide +kernel
theorem d_K_rootOf_14 : decode b_K_rootOf 14 = .ok (.lcmp, 1) := by decide +kernel
theorem d_K_rootOf_15 : decode b_K_rootOf 15 = .ok (.ifCond .ne 5, 3) := by decide +kernel
theorem d_K_rootOf_18 : decode b_K_rootOf 18 = .ok (.iload_n 2, 1) := by decide +kernel
theorem d_K_rootOf_19 : decode b_K_rootOf 19 = .ok (.ireturn, 1) := by decide +kernel
theorem d_K_rootOf_20 : decode b_K_rootOf 20 = .ok (.iinc 2 1, 3) := by decide +kernel
theorem d_K_rootOf_23 : decode b_K_rootOf 23 = .ok (.goto (-21), 3) := by decide +kernel
theorem d_K_rootOf_26 : decode b_K_rootOf 26 = .ok (.iconst 0, 1) := by decide +kernel
theorem d_K_rootOf_27 : decode b_K_rootOf 27 = .ok (.ireturn, 1) := by decide +kernel
theorem d_K_addCrosswise_0 : decode b_K_addCrosswise 0 = .ok (.aload_n 0, 1) := by decide +kernel
theorem d_K_addCrosswise_1 : decode b_K_addCrosswise 1 = .ok (.getfield 31, 3) := by decide +kernel
theorem d_K_addCrosswise_4 : decode b_K_addCrosswise 4 = .ok (.iconst 0, 1) := by decide +kernel
theorem d_K_addCrosswise_5 : decode b_K_addCrosswise 5 = .ok (.iconst 1, 1) := by decide +kernel
theorem d_K_addCrosswise_6 : decode b_K_addCrosswise 6 = .ok (.invokestatic 56, 3) := by decide +kernel
theorem d_K_addCrosswise_9 : decode b_K_addCrosswise 9 = .ok (.dup2, 1) := by decide +kernel
theorem d_K_addCrosswise_10 : decode b_K_addCrosswise 10 = .ok (.laload, 1) := by decide +kernel
theorem d_K_addCrosswise_11 : decode b_K_addCrosswise 11 = .ok (.lload 5, 2) := by decide +kernel
theorem d_K_addCrosswise_13 : decode b_K_addCrosswise 13 = .ok (.lsub, 1) := by decide +kernel
theorem d_K_addCrosswise_14 : decode b_K_addCrosswise 14 = .ok (.lastore, 1) := by decide +kernel
theorem d_K_addCrosswise_15 : decode b_K_addCrosswise 15 = .ok (.aload_n 0, 1) := by decide +kernel
theorem d_K_addCrosswise_16 : decode b_K_addCrosswise 16 = .ok (.getfield 31, 3) := by decide +kernel
theorem d_K_addCrosswise_19 : decode b_K_addCrosswise 19 = .ok (.iconst 0, 1) := by decide +kernel
theorem d_K_addCrosswise_20 : decode b_K_addCrosswise 20 = .ok (.iconst 2, 1) := by decide +kernel
theorem d_K_addCrosswise_21 : decode b_K_addCrosswise 21 = .ok (.invokestatic 56, 3) := by decide +kernel
theorem d_K_addCrosswise_24 : decode b_K_addCrosswise 24 = .ok (.dup2, 1) := by decide +kernel
theorem d_K_addCrosswise_25 : decode b_K_addCrosswise 25 = .ok (.laload, 1) := by decide +kernel
theorem d_K_addCrosswise_26 : decode b_K_addCrosswise 26 = .ok (.lload_n 3, 1) := by decide +kernel
theorem d_K_addCrosswise_27 : decode b_K_addCrosswise 27 = .ok (.ladd, 1) := by decide +kernel
theorem d_K_addCrosswise_28 : decode b_K_addCrosswise 28 = .ok (.lastore, 1) := by decide +kernel
theorem d_K_addCrosswise_29 : decode b_K_addCrosswise 29 = .ok (.aload_n 0, 1) := by decide +kernel
theorem d_K_addCrosswise_30 : decode b_K_addCrosswise 30 = .ok (.getfield 31, 3) := by decide +kernel
theorem d_K_addCrosswise_33 : decode b_K_addCrosswise 33 = .ok (.iconst 1, 1) := by decide +kernel
theorem d_K_addCrosswise_34 : decode b_K_addCrosswise 34 = .ok (.iconst 0, 1) := by decide +kernel
theorem d_K_addCrosswise_35 : decode b_K_addCrosswise 35 = .ok (.invokestatic 56, 3) := by decide +kernel
theorem d_K_addCrosswise_38 : decode b_K_addCrosswise 38 = .ok (.dup2, 1) := by decide +kernel
theorem d_K_addCrosswise_39 : decode b_K_addCrosswise 39 = .ok (.laload, 1) := by decide +kernel
theorem d_K_addCrosswise_40 : decode b_K_addCrosswise 40 = .ok (.lload 5, 2) := by decide +kernel
theorem d_K_addCrosswise_42 : decode b_K_addCrosswise 42 = .ok (.ladd, 1) := by decide +kernel
theorem d_K_addCrosswise_43 : decode b_K_addCrosswise 43 = .ok (.lastore, 1) := by decide +kernel
theorem d_K_addCrosswise_44 : decode b_K_addCrosswise 44 = .ok (.aload_n 0, 1) := by decide +kernel
theorem d_K_addCrosswise_45 : decode b_K_addCrosswise 45 = .ok (.getfield 31, 3) := by decide +kernel
theorem d_K_addCrosswise_48 : decode b_K_addCrosswise 48 = .ok (.iconst 1, 1) := by decide +kernel
theorem d_K_addCrosswise_49 : decode b_K_addCrosswise 49 = .ok (.iconst 2, 1) := by decide +kernel
theorem d_K_addCrosswise_50 : decode b_K_addCrosswise 50 = .ok (.invokestatic 56, 3) := by decide +kernel
theorem d_K_addCrosswise_53 : decode b_K_addCrosswise 53 = .ok (.dup2, 1) := by decide +kernel
theorem d_K_addCrosswise_54 : decode b_K_addCrosswise 54 = .ok (.laload, 1) := by decide +kernel
theorem d_K_addCrosswise_55 : decode b_K_addCrosswise 55 = .ok (.lload_n 1, 1) := by decide +kernel
theorem d_K_addCrosswise_56 : decode b_K_addCrosswise 56 = .ok (.lsub, 1) := by decide +kernel
theorem d_K_addCrosswise_57 : decode b_K_addCrosswise 57 = .ok (.lastore, 1) := by decide +kernel
theorem d_K_addCrosswise_58 : decode b_K_addCrosswise 58 = .ok (.aload_n 0, 1) := by decide +kernel
theorem d_K_addCrosswise_59 : decode b_K_addCrosswise 59 = .ok (.getfield 31, 3) := by decide +kernel
theorem d_K_addCrosswise_62 : decode b_K_addCrosswise 62 = .ok (.iconst 2, 1) := by decide +kernel
theorem d_K_addCrosswise_63 : decode b_K_addCrosswise 63 = .ok (.iconst 0, 1) := by decide +kernel
theorem d_K_addCrosswise_64 : decode b_K_addCrosswise 64 = .ok (.invokestatic 56, 3) := by decide +kernel
theorem d_K_addCrosswise_67 : decode b_K_addCrosswise 67 = .ok (.dup2, 1) := by decide +kernel
theorem d_K_addCrosswise_68 : decode b_K_addCrosswise 68 = .ok (.laload, 1) := by decide +kernel
theorem d_K_addCrosswise_69 : decode b_K_addCrosswise 69 = .ok (.lload_n 3, 1) := by decide +kernel
theorem d_K_addCrosswise_70 : decode b_K_addCrosswise 70 = .ok (.lsub, 1) := by decide +kernel
theorem d_K_addCrosswise_71 : decode b_K_addCrosswise 71 = .ok (.lastore, 1) := by decide +kernel
theorem d_K_addCrosswise_72 : decode b_K_addCrosswise 72 = .ok (.aload_n 0, 1) := by decide +kernel
theorem d_K_addCrosswise_73 : decode b_K_addCrosswise 73 = .ok (.getfield 31, 3) := by decide +kernel
theorem d_K_addCrosswise_76 : decode b_K_addCrosswise 76 = .ok (.iconst 2, 1) := by decide +kernel
theorem d_K_addCrosswise_77 : decode b_K_addCrosswise 77 = .ok (.iconst 1, 1) := by decide +kernel
theorem d_K_addCrosswise_78 : decode b_K_addCrosswise 78 = .ok (.invokestatic 56, 3) := by decide +kernel
theorem d_K_addCrosswise_81 : decode b_K_addCrosswise 81 = .ok (.dup2, 1) := by decide +kernel
theorem d_K_addCrosswise_82 : decode b_K_addCrosswise 82 = .ok (.laload, 1) := by decide +kernel
theorem d_K_addCrosswise_83 : decode b_K_addCrosswise 83 = .ok (.lload_n 1, 1) := by decide +kernel
theorem d_K_addCrosswise_84 : decode b_K_addCrosswise 84 = .ok (.ladd, 1) := by decide +kernel
theorem d_K_addCrosswise_85 : decode b_K_addCrosswise 85 = .ok (.lastore, 1) := by decide +kernel
theorem d_K_addCrosswise_86 : decode b_K_addCrosswise 86 = .ok (.return_, 1) := by decide +kernel
theorem d_K_readLines_0 : decode b_K_readLines 0 = .ok (.iconst 0, 1) := by decide +kernel
theorem d_K_readLines_1 : decode b_K_readLines 1 = .ok (.istore_n 1, 1) := by decide +kernel
theorem d_K_readLines_2 : decode b_K_readLines 2 = .ok (.iload_n 1, 1) := by decide +kernel
theorem d_K_readLines_3 : decode b_K_readLines 3 = .ok (.iconst 3, 1) := by decide +kernel
theorem d_K_readLines_4 : decode b_K_readLines 4 = .ok (.if_icmp .ge 44, 3) := by decide +kernel
theorem d_K_readLines_7 : decode b_K_readLines 7 = .ok (.iconst 0, 1) := by decide +kernel
theorem d_K_readLines_8 : decode b_K_readLines 8 = .ok (.istore_n 2, 1) := by decide +kernel
theorem d_K_readLines_9 : decode b_K_readLines 9 = .ok (.iload_n 2, 1) := by decide +kernel
theorem d_K_readLines_10 : decode b_K_readLines 10 = .ok (.iconst 3, 1) := by decide +kernel
theorem d_K_readLines_11 : decode b_K_readLines 11 = .ok (.if_icmp .ge 31, 3) := by decide +kernel
theorem d_K_readLines_14 : decode b_K_readLines 14 = .ok (.aload_n 0, 1) := by decide +kernel
theorem d_K_readLines_15 : decode b_K_readLines 15 = .ok (.getfield 31, 3) := by decide +kernel
theorem d_K_readLines_18 : decode b_K_readLines 18 = .ok (.iload_n 1, 1) := by decide +kernel
theorem d_K_readLines_19 : decode b_K_readLines 19 = .ok (.iload_n 2, 1) := by decide +kernel
theorem d_K_readLines_20 : decode b_K_readLines 20 = .ok (.invokestatic 56, 3) := by decide +kernel
theorem d_K_readLines_23 : decode b_K_readLines 23 = .ok (.laload, 1) := by decide +kernel
theorem d_K_readLines_24 : decode b_K_readLines 24 = .ok (.lconst 0, 1) := by decide +kernel
theorem d_K_readLines_25 : decode b_K_readLines 25 = .ok (.lcmp, 1) := by decide +kernel
theorem d_K_readLines_26 : decode b_K_readLines 26 = .ok (.ifCond .eq 10, 3) := by decide +kernel
theorem d_K_readLines_29 : decode b_K_readLines 29 = .ok (.aload_n 0, 1) := by decide +kernel
theorem d_K_readLines_30 : decode b_K_readLines 30 = .ok (.iload_n 1, 1) := by decide +kernel
theorem d_K_readLines_31 : decode b_K_readLines 31 = .ok (.iload_n 2, 1) := by decide +kernel
theorem d_K_readLines_32 : decode b_K_readLines 32 = .ok (.invokevirtual 202, 3) := by decide +kernel
theorem d_K_readLines_35 : decode b_K_readLines 35 = .ok (.ireturn, 1) := by decide +kernel
theorem d_K_readLines_36 : decode b_K_readLines 36 = .ok (.iinc 2 1, 3) := by decide +kernel
theorem d_K_readLines_39 : decode b_K_readLines 39 = .ok (.goto (-30), 3) := by decide +kernel
theorem d_K_readLines_42 : decode b_K_readLines 42 = .ok (.iinc 1 1, 3) := by decide +kernel
theorem d_K_readLines_45 : decode b_K_readLines 45 = .ok (.goto (-43), 3) := by decide +kernel
theorem d_K_readLines_48 : decode b_K_readLines 48 = .ok (.iconst 0, 1) := by decide +kernel
theorem d_K_readLines_49 : decode b_K_readLines 49 = .ok (.ireturn, 1) := by decide +kernel
theorem d_K_readLinesAt_0 : decode b_K_readLinesAt 0 = .ok (.iconst 0, 1) := by decide +kernel
theorem d_K_readLinesAt_1 : decode b_K_readLinesAt 1 = .ok (.istore_n 3, 1) := by decide +kernel
theorem d_K_readLinesAt_2 : decode b_K_readLinesAt 2 = .ok (.iload_n 3, 1) := by decide +kernel
theorem d_K_readLinesAt_3 : decode b_K_readLinesAt 3 = .ok (.iconst 3, 1) := by decide +kernel
theorem d_K_readLinesAt_4 : decode b_K_readLinesAt 4 = .ok (.if_icmp .ge 41, 3) := by decide +kernel
theorem d_K_readLinesAt_7 : decode b_K_readLinesAt 7 = .ok (.aload_n 0, 1) := by decide +kernel
theorem d_K_readLinesAt_8 : decode b_K_readLinesAt 8 = .ok (.getfield 34, 3) := by decide +kernel
theorem d_K_readLinesAt_11 : decode b_K_readLinesAt 11 = .ok (.iload_n 3, 1) := by decide +kernel
theorem d_K_readLinesAt_12 : decode b_K_readLinesAt 12 = .ok (.aload_n 0, 1) := by decide +kernel
theorem d_K_readLinesAt_13 : decode b_K_readLinesAt 13 = .ok (.getfield 31, 3) := by decide +kernel
theorem d_K_readLinesAt_16 : decode b_K_readLinesAt 16 = .ok (.iload_n 1, 1) := by decide +kernel
theorem d_K_readLinesAt_17 : decode b_K_readLinesAt 17 = .ok (.iload_n 3, 1) := by decide +kernel
theorem d_K_readLinesAt_18 : decode b_K_readLinesAt 18 = .ok (.invokestatic 56, 3) := by decide +kernel
theorem d_K_readLinesAt_21 : decode b_K_readLinesAt 21 = .ok (.laload, 1) := by decide +kernel
theorem d_K_readLinesAt_22 : decode b_K_readLinesAt 22 = .ok (.lastore, 1) := by decide +kernel
theorem d_K_readLinesAt_23 : decode b_K_readLinesAt 23 = .ok (.aload_n 0, 1) := by decide +kernel
theorem d_K_readLinesAt_24 : decode b_K_readLinesAt 24 = .ok (.getfield 37, 3) := by decide +kernel
theorem d_K_readLinesAt_27 : decode b_K_readLinesAt 27 = .ok (.iload_n 3, 1) := by decide +kernel
theorem d_K_readLinesAt_28 : decode b_K_readLinesAt 28 = .ok (.aload_n 0, 1) := by decide +kernel
theorem d_K_readLinesAt_29 : decode b_K_readLinesAt 29 = .ok (.getfield 31, 3) := by decide +kernel
theorem d_K_readLinesAt_32 : decode b_K_readLinesAt 32 = .ok (.iload_n 3, 1) := by decide +kernel
theorem d_K_readLinesAt_33 : decode b_K_readLinesAt 33 = .ok (.iload_n 2, 1) := by decide +kernel
theorem d_K_readLinesAt_34 : decode b_K_readLinesAt 34 = .ok (.invokestatic 56, 3) := by decide +kernel
theorem d_K_readLinesAt_37 : decode b_K_readLinesAt 37 = .ok (.laload, 1) := by decide +kernel
theorem d_K_readLinesAt_38 : decode b_K_readLinesAt 38 = .ok (.lastore, 1) := by decide +kernel
theorem d_K_readLinesAt_39 : decode b_K_readLinesAt 39 = .ok (.iinc 3 1, 3) := by decide +kernel
theorem d_K_readLinesAt_42 : decode b_K_readLinesAt 42 = .ok (.goto (-40), 3) := by decide +kernel
theorem d_K_readLinesAt_45 : decode b_K_readLinesAt 45 = .ok (.aload_n 0, 1) := by decide +kernel
theorem d_K_readLinesAt_46 : decode b_K_readLinesAt 46 = .ok (.getfield 34, 3) := by decide +kernel
theorem d_K_readLinesAt_49 : decode b_K_readLinesAt 49 = .ok (.iconst 3, 1) := by decide +kernel
theorem d_K_readLinesAt_50 : decode b_K_readLinesAt 50 = .ok (.invokestatic 125, 3) := by decide +kernel
theorem d_K_readLinesAt_53 : decode b_K_readLinesAt 53 = .ok (.ifCond .eq 18, 3) := by decide +kernel
theorem d_K_readLinesAt_56 : decode b_K_readLinesAt 56 = .ok (.aload_n 0, 1) := by decide +kernel
theorem d_K_readLinesAt_57 : decode b_K_readLinesAt 57 = .ok (.getfield 37, 3) := by decide +kernel
theorem d_K_readLinesAt_60 : decode b_K_readLinesAt 60 = .ok (.iconst 3, 1) := by decide +kernel
theorem d_K_readLinesAt_61 : decode b_K_readLinesAt 61 = .ok (.invokestatic 125, 3) := by decide +kernel
theorem d_K_readLinesAt_64 : decode b_K_readLinesAt 64 = .ok (.ifCond .eq 7, 3) := by decide +kernel
theorem d_K_readLinesAt_67 : decode b_K_readLinesAt 67 = .ok (.iconst 1, 1) := by decide +kernel
theorem d_K_readLinesAt_68 : decode b_K_readLinesAt 68 = .ok (.goto 4, 3) := by decide +kernel
theorem d_K_readLinesAt_71 : decode b_K_readLinesAt 71 = .ok (.iconst 0, 1) := by decide +kernel
theorem d_K_readLinesAt_72 : decode b_K_readLinesAt 72 = .ok (.ireturn, 1) := by decide +kernel
theorem d_K_isLess_0 : decode b_K_isLess 0 = .ok (.iconst 0, 1) := by decide +kernel
theorem d_K_isLess_1 : decode b_K_isLess 1 = .ok (.istore_n 2, 1) := by decide +kernel
theorem d_K_isLess_2 : decode b_K_isLess 2 = .ok (.iload_n 2, 1) := by decide +kernel
theorem d_K_isLess_3 : decode b_K_isLess 3 = .ok (.iconst 3, 1) := by decide +kernel
theorem d_K_isLess_4 : decode b_K_isLess 4 = .ok (.if_icmp .ge 35, 3) := by decide +kernel
theorem d_K_isLess_7 : decode b_K_isLess 7 = .ok (.aload_n 0, 1) := by decide +kernel
theorem d_K_isLess_8 : decode b_K_isLess 8 = .ok (.iload_n 2, 1) := by decide +kernel
theorem d_K_isLess_9 : decode b_K_isLess 9 = .ok (.laload, 1) := by decide +kernel
theorem d_K_isLess_10 : decode b_K_isLess 10 = .ok (.aload_n 1, 1) := by decide +kernel
theorem d_K_isLess_11 : decode b_K_isLess 11 = .ok (.iload_n 2, 1) := by decide +kernel
theorem d_K_isLess_12 : decode b_K_isLess 12 = .ok (.laload, 1) := by decide +kernel
theorem d_K_isLess_13 : decode b_K_isLess 13 = .ok (.lcmp, 1) := by decide +kernel
theorem d_K_isLess_14 : decode b_K_isLess 14 = .ok (.ifCond .eq 19, 3) := by decide +kernel
theorem d_K_isLess_17 : decode b_K_isLess 17 = .ok (.aload_n 0, 1) := by decide +kernel
theorem d_K_isLess_18 : decode b_K_isLess 18 = .ok (.iload_n 2, 1) := by decide +kernel
theorem d_K_isLess_19 : decode b_K_isLess 19 = .ok (.laload, 1) := by decide +kernel
theorem d_K_isLess_20 : decode b_K_isLess 20 = .ok (.aload_n 1, 1) := by decide +kernel
theorem d_K_isLess_21 : decode b_K_isLess 21 = .ok (.iload_n 2, 1) := by decide +kernel
theorem d_K_isLess_22 : decode b_K_isLess 22 = .ok (.laload, 1) := by decide +kernel
theorem d_K_isLess_23 : decode b_K_isLess 23 = .ok (.lcmp, 1) := by decide +kernel
theorem d_K_isLess_24 : decode b_K_isLess 24 = .ok (.ifCond .ge 7, 3) := by decide +kernel
theorem d_K_isLess_27 : decode b_K_isLess 27 = .ok (.iconst 1, 1) := by decide +kernel
theorem d_K_isLess_28 : decode b_K_isLess 28 = .ok (.goto 4, 3) := by decide +kernel
theorem d_K_isLess_31 : decode b_K_isLess 31 = .ok (.iconst 0, 1) := by decide +kernel
theorem d_K_isLess_32 : decode b_K_isLess 32 = .ok (.ireturn, 1) := by decide +kernel
theorem d_K_isLess_33 : decode b_K_isLess 33 = .ok (.iinc 2 1, 3) := by decide +kernel
theorem d_K_isLess_36 : decode b_K_isLess 36 = .ok (.goto (-34), 3) := by decide +kernel
theorem d_K_isLess_39 : decode b_K_isLess 39 = .ok (.iconst 0, 1) := by decide +kernel
theorem d_K_isLess_40 : decode b_K_isLess 40 = .ok (.ireturn, 1) := by decide +kernel
theorem d_K_keep_0 : decode b_K_keep 0 = .ok (.aload_n 0, 1) := by decide +kernel
theorem d_K_keep_1 : decode b_K_keep 1 = .ok (.getfield 17, 3) := by decide +kernel
theorem d_K_keep_4 : decode b_K_keep 4 = .ok (.iconst 0, 1) := by decide +kernel
theorem d_K_keep_5 : decode b_K_keep 5 = .ok (.aload_n 0, 1) := by decide +kernel
theorem d_K_keep_6 : decode b_K_keep 6 = .ok (.getfield 21, 3) := by decide +kernel
theorem d_K_keep_9 : decode b_K_keep 9 = .ok (.iconst 0, 1) := by decide +kernel
theorem d_K_keep_10 : decode b_K_keep 10 = .ok (.bipush 16, 2) := by decide +kernel
theorem d_K_keep_12 : decode b_K_keep 12 = .ok (.invokestatic 152, 3) := by decide +kernel
theorem d_K_keep_15 : decode b_K_keep 15 = .ok (.aload_n 0, 1) := by decide +kernel
theorem d_K_keep_16 : decode b_K_keep 16 = .ok (.iconst 1, 1) := by decide +kernel
theorem d_K_keep_17 : decode b_K_keep 17 = .ok (.putfield 13, 3) := by decide +kernel
theorem d_K_keep_20 : decode b_K_keep 20 = .ok (.aload_n 0, 1) := by decide +kernel
theorem d_K_keep_21 : decode b_K_keep 21 = .ok (.aload_n 0, 1) := by decide +kernel
theorem d_K_keep_22 : decode b_K_keep 22 = .ok (.getfield 17, 3) := by decide +kernel
theorem d_K_keep_25 : decode b_K_keep 25 = .ok (.aload_n 0, 1) := by decide +kernel
theorem d_K_keep_26 : decode b_K_keep 26 = .ok (.getfield 7, 3) := by decide +kernel
theorem d_K_keep_29 : decode b_K_keep 29 = .ok (.invokevirtual 60, 3) := by decide +kernel
theorem d_K_keep_32 : decode b_K_keep 32 = .ok (.ireturn, 1) := by decide +kernel
theorem d_K_alike_0 : decode b_K_alike 0 = .ok (.aload_n 0, 1) := by decide +kernel
theorem d_K_alike_1 : decode b_K_alike 1 = .ok (.getfield 13, 3) := by decide +kernel
theorem d_K_alike_4 : decode b_K_alike 4 = .ok (.ifCond .ne 6, 3) := by decide +kernel
theorem d_K_alike_7 : decode b_K_alike 7 = .ok (.bipush (-3), 2) := by decide +kernel
theorem d_K_alike_9 : decode b_K_alike 9 = .ok (.ireturn, 1) := by decide +kernel
theorem d_K_alike_10 : decode b_K_alike 10 = .ok (.iconst 0, 1) := by decide +kernel
theorem d_K_alike_11 : decode b_K_alike 11 = .ok (.istore_n 1, 1) := by decide +kernel
theorem d_K_alike_12 : decode b_K_alike 12 = .ok (.iload_n 1, 1) := by decide +kernel
theorem d_K_alike_13 : decode b_K_alike 13 = .ok (.bipush 15, 2) := by decide +kernel
theorem d_K_alike_15 : decode b_K_alike 15 = .ok (.if_icmp .ge 31, 3) := by decide +kernel
theorem d_K_alike_18 : decode b_K_alike 18 = .ok (.aload_n 0, 1) := by decide +kernel
theorem d_K_alike_19 : decode b_K_alike 19 = .ok (.getfield 21, 3) := by decide +kernel
theorem d_K_alike_22 : decode b_K_alike 22 = .ok (.iload_n 1, 1) := by decide +kernel
theorem d_K_alike_23 : decode b_K_alike 23 = .ok (.laload, 1) := by decide +kernel
theorem d_K_alike_24 : decode b_K_alike 24 = .ok (.lconst 0, 1) := by decide +kernel
theorem d_K_alike_25 : decode b_K_alike 25 = .ok (.lcmp, 1) := by decide +kernel
theorem d_K_alike_26 : decode b_K_alike 26 = .ok (.ifCond .ne 20, 3) := by decide +kernel
theorem d_K_alike_29 : decode b_K_alike 29 = .ok (.aload_n 0, 1) := by decide +kernel
theorem d_K_alike_30 : decode b_K_alike 30 = .ok (.getfield 17, 3) := by decide +kernel
theorem d_K_alike_33 : decode b_K_alike 33 = .ok (.iload_n 1, 1) := by decide +kernel
theorem d_K_alike_34 : decode b_K_alike 34 = .ok (.laload, 1) := by decide +kernel
theorem d_K_alike_35 : decode b_K_alike 35 = .ok (.lconst 0, 1) := by decide +kernel
theorem d_K_alike_36 : decode b_K_alike 36 = .ok (.lcmp, 1) := by decide +kernel
theorem d_K_alike_37 : decode b_K_alike 37 = .ok (.ifCond .ne 9, 3) := by decide +kernel
theorem d_K_alike_40 : decode b_K_alike 40 = .ok (.iinc 1 1, 3) := by decide +kernel
theorem d_K_alike_43 : decode b_K_alike 43 = .ok (.goto (-31), 3) := by decide +kernel
theorem d_K_alike_46 : decode b_K_alike 46 = .ok (.aload_n 0, 1) := by decide +kernel
theorem d_K_alike_47 : decode b_K_alike 47 = .ok (.getfield 21, 3) := by decide +kernel
theorem d_K_alike_50 : decode b_K_alike 50 = .ok (.iload_n 1, 1) := by decide +kernel
theorem d_K_alike_51 : decode b_K_alike 51 = .ok (.laload, 1) := by decide +kernel
theorem d_K_alike_52 : decode b_K_alike 52 = .ok (.lconst 0, 1) := by decide +kernel
theorem d_K_alike_53 : decode b_K_alike 53 = .ok (.lcmp, 1) := by decide +kernel
theorem d_K_alike_54 : decode b_K_alike 54 = .ok (.ifCond .ne 7, 3) := by decide +kernel
theorem d_K_alike_57 : decode b_K_alike 57 = .ok (.iconst 1, 1) := by decide +kernel
theorem d_K_alike_58 : decode b_K_alike 58 = .ok (.goto 4, 3) := by decide +kernel
theorem d_K_alike_61 : decode b_K_alike 61 = .ok (.iconst 0, 1) := by decide +kernel
theorem d_K_alike_62 : decode b_K_alike 62 = .ok (.aload_n 0, 1) := by decide +kernel
theorem d_K_alike_63 : decode b_K_alike 63 = .ok (.getfield 17, 3) := by decide +kernel
theorem d_K_alike_66 : decode b_K_alike 66 = .ok (.iload_n 1, 1) := by decide +kernel
theorem d_K_alike_67 : decode b_K_alike 67 = .ok (.laload, 1) := by decide +kernel
theorem d_K_alike_68 : decode b_K_alike 68 = .ok (.lconst 0, 1) := by decide +kernel
theorem d_K_alike_69 : decode b_K_alike 69 = .ok (.lcmp, 1) := by decide +kernel
theorem d_K_alike_70 : decode b_K_alike 70 = .ok (.ifCond .ne 7, 3) := by decide +kernel
theorem d_K_alike_73 : decode b_K_alike 73 = .ok (.iconst 1, 1) := by decide +kernel
theorem d_K_alike_74 : decode b_K_alike 74 = .ok (.goto 4, 3) := by decide +kernel
theorem d_K_alike_77 : decode b_K_alike 77 = .ok (.iconst 0, 1) := by decide +kernel
theorem d_K_alike_78 : decode b_K_alike 78 = .ok (.if_icmp .eq 5, 3) := by decide +kernel
theorem d_K_alike_81 : decode b_K_alike 81 = .ok (.iconst 0, 1) := by decide +kernel
theorem d_K_alike_82 : decode b_K_alike 82 = .ok (.ireturn, 1) := by decide +kernel
theorem d_K_alike_83 : decode b_K_alike 83 = .ok (.iconst 0, 1) := by decide +kernel
theorem d_K_alike_84 : decode b_K_alike 84 = .ok (.istore_n 2, 1) := by decide +kernel
theorem d_K_alike_85 : decode b_K_alike 85 = .ok (.iload_n 2, 1) := by decide +kernel
theorem d_K_alike_86 : decode b_K_alike 86 = .ok (.bipush 16, 2) := by decide +kernel
theorem d_K_alike_88 : decode b_K_alike 88 = .ok (.if_icmp .ge 41, 3) := by decide +kernel
theorem d_K_alike_91 : decode b_K_alike 91 = .ok (.aload_n 0, 1) := by decide +kernel
theorem d_K_alike_92 : decode b_K_alike 92 = .ok (.getfield 17, 3) := by decide +kernel
theorem d_K_alike_95 : decode b_K_alike 95 = .ok (.iload_n 2, 1) := by decide +kernel
theorem d_K_alike_96 : decode b_K_alike 96 = .ok (.laload, 1) := by decide +kernel
theorem d_K_alike_97 : decode b_K_alike 97 = .ok (.aload_n 0, 1) := by decide +kernel
theorem d_K_alike_98 : decode b_K_alike 98 = .ok (.getfield 21, 3) := by decide +kernel
theorem d_K_alike_101 : decode b_K_alike 101 = .ok (.iload_n 1, 1) := by decide +kernel
theorem d_K_alike_102 : decode b_K_alike 102 = .ok (.laload, 1) := by decide +kernel
theorem d_K_alike_103 : decode b_K_alike 103 = .ok (.lmul, 1) := by decide +kernel
theorem d_K_alike_104 : decode b_K_alike 104 = .ok (.aload_n 0, 1) := by decide +kernel
theorem d_K_alike_105 : decode b_K_alike 105 = .ok (.getfield 21, 3) := by decide +kernel
theorem d_K_alike_108 : decode b_K_alike 108 = .ok (.iload_n 2, 1) := by decide +kernel
theorem d_K_alike_109 : decode b_K_alike 109 = .ok (.laload, 1) := by decide +kernel
theorem d_K_alike_110 : decode b_K_alike 110 = .ok (.aload_n 0, 1) := by decide +kernel
theorem d_K_alike_111 : decode b_K_alike 111 = .ok (.getfield 17, 3) := by decide +kernel
theorem d_K_alike_114 : decode b_K_alike 114 = .ok (.iload_n 1, 1) := by decide +kernel
theorem d_K_alike_115 : decode b_K_alike 115 = .ok (.laload, 1) := by decide +kernel
theorem d_K_alike_116 : decode b_K_alike 116 = .ok (.lmul, 1) := by decide +kernel
theorem d_K_alike_117 : decode b_K_alike 117 = .ok (.lcmp, 1) := by decide +kernel
theorem d_K_alike_118 : decode b_K_alike 118 = .ok (.ifCond .eq 5, 3) := by decide +kernel
theorem d_K_alike_121 : decode b_K_alike 121 = .ok (.iconst 0, 1) := by decide +kernel
theorem d_K_alike_122 : decode b_K_alike 122 = .ok (.ireturn, 1) := by decide +kernel
theorem d_K_alike_123 : decode b_K_alike 123 = .ok (.iinc 2 1, 3) := by decide +kernel
theorem d_K_alike_126 : decode b_K_alike 126 = .ok (.goto (-41), 3) := by decide +kernel
theorem d_K_alike_129 : decode b_K_alike 129 = .ok (.iconst 1, 1) := by decide +kernel
theorem d_K_alike_130 : decode b_K_alike 130 = .ok (.ireturn, 1) := by decide +kernel
theorem d_K_height_0 : decode b_K_height 0 = .ok (.iload_n 1, 1) := by decide +kernel
theorem d_K_height_1 : decode b_K_height 1 = .ok (.invokestatic 88, 3) := by decide +kernel
theorem d_K_height_4 : decode b_K_height 4 = .ok (.ifCond .eq 7, 3) := by decide +kernel
theorem d_K_height_7 : decode b_K_height 7 = .ok (.ldc2_w 54, 3) := by decide +kernel
theorem d_K_height_10 : decode b_K_height 10 = .ok (.lreturn, 1) := by decide +kernel
theorem d_K_height_11 : decode b_K_height 11 = .ok (.aload_n 0, 1) := by decide +kernel
theorem d_K_height_12 : decode b_K_height 12 = .ok (.getfield 27, 3) := by decide +kernel
theorem d_K_height_15 : decode b_K_height 15 = .ok (.aload_n 0, 1) := by decide +kernel
theorem d_K_height_16 : decode b_K_height 16 = .ok (.getfield 17, 3) := by decide +kernel
theorem d_K_height_19 : decode b_K_height 19 = .ok (.iconst 1, 1) := by decide +kernel
theorem d_K_height_20 : decode b_K_height 20 = .ok (.aload_n 0, 1) := by decide +kernel
theorem d_K_height_21 : decode b_K_height 21 = .ok (.getfield 7, 3) := by decide +kernel
theorem d_K_height_24 : decode b_K_height 24 = .ok (.invokevirtual 64, 3) := by decide +kernel
theorem d_K_height_27 : decode b_K_height 27 = .ok (.aload_n 0, 1) := by decide +kernel
theorem d_K_height_28 : decode b_K_height 28 = .ok (.getfield 27, 3) := by decide +kernel
theorem d_K_height_31 : decode b_K_height 31 = .ok (.invokevirtual 82, 3) := by decide +kernel
theorem d_K_height_34 : decode b_K_height 34 = .ok (.lstore_n 2, 1) := by decide +kernel
theorem d_K_height_35 : decode b_K_height 35 = .ok (.lload_n 2, 1) := by decide +kernel
theorem d_K_height_36 : decode b_K_height 36 = .ok (.lconst 0, 1) := by decide +kernel
theorem d_K_height_37 : decode b_K_height 37 = .ok (.lcmp, 1) := by decide +kernel
theorem d_K_height_38 : decode b_K_height 38 = .ok (.ifCond .ne 13, 3) := by decide +kernel
theorem d_K_height_41 : decode b_K_height 41 = .ok (.new 99, 3) := by decide +kernel
theorem d_K_height_44 : decode b_K_height 44 = .ok (.dup, 1) := by decide +kernel
theorem d_K_height_45 : decode b_K_height 45 = .ok (.ldc 101, 2) := by decide +kernel
theorem d_K_height_47 : decode b_K_height 47 = .ok (.invokespecial 103, 3) := by decide +kernel
theorem d_K_height_50 : decode b_K_height 50 = .ok (.athrow, 1) := by decide +kernel
theorem d_K_height_51 : decode b_K_height 51 = .ok (.aload_n 0, 1) := by decide +kernel
theorem d_K_height_52 : decode b_K_height 52 = .ok (.getfield 27, 3) := by decide +kernel
theorem d_K_height_55 : decode b_K_height 55 = .ok (.aload_n 0, 1) := by decide +kernel
theorem d_K_height_56 : decode b_K_height 56 = .ok (.getfield 17, 3) := by decide +kernel
theorem d_K_height_59 : decode b_K_height 59 = .ok (.iconst 0, 1) := by decide +kernel
theorem d_K_height_60 : decode b_K_height 60 = .ok (.aload_n 0, 1) := by decide +kernel
theorem d_K_height_61 : decode b_K_height 61 = .ok (.getfield 7, 3) := by decide +kernel
theorem d_K_height_64 : decode b_K_height 64 = .ok (.invokevirtual 64, 3) := by decide +kernel
theorem d_K_height_67 : decode b_K_height 67 = .ok (.aload_n 0, 1) := by decide +kernel
theorem d_K_height_68 : decode b_K_height 68 = .ok (.getfield 27, 3) := by decide +kernel
theorem d_K_height_71 : decode b_K_height 71 = .ok (.invokevirtual 82, 3) := by decide +kernel
theorem d_K_height_74 : decode b_K_height 74 = .ok (.lload_n 2, 1) := by decide +kernel
theorem d_K_height_75 : decode b_K_height 75 = .ok (.iload_n 1, 1) := by decide +kernel
theorem d_K_height_76 : decode b_K_height 76 = .ok (.invokestatic 95, 3) := by decide +kernel
theorem d_K_height_79 : decode b_K_height 79 = .ok (.lreturn, 1) := by decide +kernel
end
section
/-! decode rows of ConicKindsModel (wip/gen_names.py) -/
theorem d_M_init_0 : decode b_M_init 0 = .ok (.aload_n 0, 1) := by decide +kernel
theorem d_M_init_1 : decode b_M_init 1 = .ok (.invokespecial 1, 3) := by decide +kernel
theorem d_M_init_4 : decode b_M_init 4 = .ok (.aload_n 0, 1) := by decide +kernel
theorem d_M_init_5 : decode b_M_init 5 = .ok (.iconst 2, 1) := by decide +kernel
theorem d_M_init_6 : decode b_M_init 6 = .ok (.putfield 7, 3) := by decide +kernel
theorem d_M_init_9 : decode b_M_init 9 = .ok (.aload_n 0, 1) := by decide +kernel
theorem d_M_init_10 : decode b_M_init 10 = .ok (.bipush 16, 2) := by decide +kernel
theorem d_M_init_12 : decode b_M_init 12 = .ok (.newarray .int, 2) := by decide +kernel
theorem d_M_init_14 : decode b_M_init 14 = .ok (.putfield 13, 3) := by decide +kernel
theorem d_M_init_17 : decode b_M_init 17 = .ok (.aload_n 0, 1) := by decide +kernel
theorem d_M_init_18 : decode b_M_init 18 = .ok (.bipush 16, 2) := by decide +kernel
theorem d_M_init_20 : decode b_M_init 20 = .ok (.newarray .int, 2) := by decide +kernel
theorem d_M_init_22 : decode b_M_init 22 = .ok (.putfield 17, 3) := by decide +kernel
theorem d_M_init_25 : decode b_M_init 25 = .ok (.aload_n 0, 1) := by decide +kernel
theorem d_M_init_26 : decode b_M_init 26 = .ok (.bipush 16, 2) := by decide +kernel
theorem d_M_init_28 : decode b_M_init 28 = .ok (.newarray .long, 2) := by decide +kernel
theorem d_M_init_30 : decode b_M_init 30 = .ok (.putfield 20, 3) := by decide +kernel
theorem d_M_init_33 : decode b_M_init 33 = .ok (.aload_n 0, 1) := by decide +kernel
theorem d_M_init_34 : decode b_M_init 34 = .ok (.bipush 20, 2) := by decide +kernel
theorem d_M_init_36 : decode b_M_init 36 = .ok (.newarray .long, 2) := by decide +kernel
theorem d_M_init_38 : decode b_M_init 38 = .ok (.putfield 24, 3) := by decide +kernel
theorem d_M_init_41 : decode b_M_init 41 = .ok (.aload_n 0, 1) := by decide +kernel
theorem d_M_init_42 : decode b_M_init 42 = .ok (.bipush 24, 2) := by decide +kernel
theorem d_M_init_44 : decode b_M_init 44 = .ok (.newarray .int, 2) := by decide +kernel
theorem d_M_init_46 : decode b_M_init 46 = .ok (.dup, 1) := by decide +kernel
theorem d_M_init_47 : decode b_M_init 47 = .ok (.iconst 0, 1) := by decide +kernel
theorem d_M_init_48 : decode b_M_init 48 = .ok (.sipush 2030, 3) := by decide +kernel
theorem d_M_init_51 : decode b_M_init 51 = .ok (.iastore, 1) := by decide +kernel
theorem d_M_init_52 : decode b_M_init 52 = .ok (.dup, 1) := by decide +kernel
theorem d_M_init_53 : decode b_M_init 53 = .ok (.iconst 1, 1) := by decide +kernel
theorem d_M_init_54 : decode b_M_init 54 = .ok (.iconst 0, 1) := by decide +kernel
theorem d_M_init_55 : decode b_M_init 55 = .ok (.iastore, 1) := by decide +kernel
theorem d_M_init_56 : decode b_M_init 56 = .ok (.dup, 1) := by decide +kernel
theorem d_M_init_57 : decode b_M_init 57 = .ok (.iconst 2, 1) := by decide +kernel
theorem d_M_init_58 : decode b_M_init 58 = .ok (.sipush 2020, 3) := by decide +kernel
theorem d_M_init_61 : decode b_M_init 61 = .ok (.iastore, 1) := by decide +kernel
theorem d_M_init_62 : decode b_M_init 62 = .ok (.dup, 1) := by decide +kernel
theorem d_M_init_63 : decode b_M_init 63 = .ok (.iconst 3, 1) := by decide +kernel
theorem d_M_init_64 : decode b_M_init 64 = .ok (.iconst 1, 1) := by decide +kernel
theorem d_M_init_65 : decode b_M_init 65 = .ok (.iastore, 1) := by decide +kernel
theorem d_M_init_66 : decode b_M_init 66 = .ok (.dup, 1) := by decide +kernel
theorem d_M_init_67 : decode b_M_init 67 = .ok (.iconst 4, 1) := by decide +kernel
theorem d_M_init_68 : decode b_M_init 68 = .ok (.sipush 2021, 3) := by decide +kernel
theorem d_M_init_71 : decode b_M_init 71 = .ok (.iastore, 1) := by decide +kernel
theorem d_M_init_72 : decode b_M_init 72 = .ok (.dup, 1) := by decide +kernel
theorem d_M_init_73 : decode b_M_init 73 = .ok (.iconst 5, 1) := by decide +kernel
theorem d_M_init_74 : decode b_M_init 74 = .ok (.iconst 2, 1) := by decide +kernel
theorem d_M_init_75 : decode b_M_init 75 = .ok (.iastore, 1) := by decide +kernel
theorem d_M_init_76 : decode b_M_init 76 = .ok (.dup, 1) := by decide +kernel
theorem d_M_init_77 : decode b_M_init 77 = .ok (.bipush 6, 2) := by decide +kernel
theorem d_M_init_79 : decode b_M_init 79 = .ok (.sipush 1121, 3) := by decide +kernel
theorem d_M_init_82 : decode b_M_init 82 = .ok (.iastore, 1) := by decide +kernel
theorem d_M_init_83 : decode b_M_init 83 = .ok (.dup, 1) := by decide +kernel
theorem d_M_init_84 : decode b_M_init 84 = .ok (.bipush 7, 2) := by decide +kernel
theorem d_M_init_86 : decode b_M_init 86 = .ok (.iconst 3, 1) := by decide +kernel
theorem d_M_init_87 : decode b_M_init 87 = .ok (.iastore, 1) := by decide +kernel
theorem d_M_init_88 : decode b_M_init 88 = .ok (.dup, 1) := by decide +kernel
theorem d_M_init_89 : decode b_M_init 89 = .ok (.bipush 8, 2) := by decide +kernel
theorem d_M_init_91 : decode b_M_init 91 = .ok (.sipush 1111, 3) := by decide +kernel
theorem d_M_init_94 : decode b_M_init 94 = .ok (.iastore, 1) := by decide +kernel
theorem d_M_init_95 : decode b_M_init 95 = .ok (.dup, 1) := by decide +kernel
theorem d_M_init_96 : decode b_M_init 96 = .ok (.bipush 9, 2) := by decide +kernel
theorem d_M_init_98 : decode b_M_init 98 = .ok (.iconst 5, 1) := by decide +kernel
theorem d_M_init_99 : decode b_M_init 99 = .ok (.iastore, 1) := by decide +kernel
theorem d_M_init_100 : decode b_M_init 100 = .ok (.dup, 1) := by decide +kernel
theorem d_M_init_101 : decode b_M_init 101 = .ok (.bipush 10, 2) := by decide +kernel
theorem d_M_init_103 : decode b_M_init 103 = .ok (.sipush 1021, 3) := by decide +kernel
theorem d_M_init_106 : decode b_M_init 106 = .ok (.iastore, 1) := by decide +kernel
theorem d_M_init_107 : decode b_M_init 107 = .ok (.dup, 1) := by decide +kernel
theorem d_M_init_108 : decode b_M_init 108 = .ok (.bipush 11, 2) := by decide +kernel
theorem d_M_init_110 : decode b_M_init 110 = .ok (.iconst 4, 1) := by decide +kernel
theorem d_M_init_111 : decode b_M_init 111 = .ok (.iastore, 1) := by decide +kernel
theorem d_M_init_112 : decode b_M_init 112 = .ok (.dup, 1) := by decide +kernel
theorem d_M_init_113 : decode b_M_init 113 = .ok (.bipush 12, 2) := by decide +kernel
theorem d_M_init_115 : decode b_M_init 115 = .ok (.sipush 1011, 3) := by decide +kernel
theorem d_M_init_118 : decode b_M_init 118 = .ok (.iastore, 1) := by decide +kernel
theorem d_M_init_119 : decode b_M_init 119 = .ok (.dup, 1) := by decide +kernel
theorem d_M_init_120 : decode b_M_init 120 = .ok (.bipush 13, 2) := by decide +kernel
theorem d_M_init_122 : decode b_M_init 122 = .ok (.bipush 6, 2) := by decide +kernel
theorem d_M_init_124 : decode b_M_init 124 = .ok (.iastore, 1) := by decide +kernel
theorem d_M_init_125 : decode b_M_init 125 = .ok (.dup, 1) := by decide +kernel
theorem d_M_init_126 : decode b_M_init 126 = .ok (.bipush 14, 2) := by decide +kernel
theorem d_M_init_128 : decode b_M_init 128 = .ok (.sipush 1020, 3) := by decide +kernel
theorem d_M_init_131 : decode b_M_init 131 = .ok (.iastore, 1) := by decide +kernel
theorem d_M_init_132 : decode b_M_init 132 = .ok (.dup, 1) := by decide +kernel
theorem d_M_init_133 : decode b_M_init 133 = .ok (.bipush 15, 2) := by decide +kernel
theorem d_M_init_135 : decode b_M_init 135 = .ok (.iconst 0, 1) := by decide +kernel
theorem d_M_init_136 : decode b_M_init 136 = .ok (.iastore, 1) := by decide +kernel
theorem d_M_init_137 : decode b_M_init 137 = .ok (.dup, 1) := by decide +kernel
theorem d_M_init_138 : decode b_M_init 138 = .ok (.bipush 16, 2) := by decide +kernel
theorem d_M_init_140 : decode b_M_init 140 = .ok (.sipush 1010, 3) := by decide +kernel
theorem d_M_init_143 : decode b_M_init 143 = .ok (.iastore, 1) := by decide +kernel
theorem d_M_init_144 : decode b_M_init 144 = .ok (.dup, 1) := by decide +kernel
theorem d_M_init_145 : decode b_M_init 145 = .ok (.bipush 17, 2) := by decide +kernel
theorem d_M_init_147 : decode b_M_init 147 = .ok (.bipush 9, 2) := by decide +kernel
theorem d_M_init_149 : decode b_M_init 149 = .ok (.iastore, 1) := by decide +kernel
theorem d_M_init_150 : decode b_M_init 150 = .ok (.dup, 1) := by decide +kernel
theorem d_M_init_151 : decode b_M_init 151 = .ok (.bipush 18, 2) := by decide +kernel
theorem d_M_init_153 : decode b_M_init 153 = .ok (.bipush 11, 2) := by decide +kernel
theorem d_M_init_155 : decode b_M_init 155 = .ok (.iastore, 1) := by decide +kernel
theorem d_M_init_156 : decode b_M_init 156 = .ok (.dup, 1) := by decide +kernel
theorem d_M_init_157 : decode b_M_init 157 = .ok (.bipush 19, 2) := by decide +kernel
theorem d_M_init_159 : decode b_M_init 159 = .ok (.bipush 7, 2) := by decide +kernel
theorem d_M_init_161 : decode b_M_init 161 = .ok (.iastore, 1) := by decide +kernel
theorem d_M_init_162 : decode b_M_init 162 = .ok (.dup, 1) := by decide +kernel
theorem d_M_init_163 : decode b_M_init 163 = .ok (.bipush 20, 2) := by decide +kernel
theorem d_M_init_165 : decode b_M_init 165 = .ok (.bipush 10, 2) := by decide +kernel
theorem d_M_init_167 : decode b_M_init 167 = .ok (.iastore, 1) := by decide +kernel
theorem d_M_init_168 : decode b_M_init 168 = .ok (.dup, 1) := by decide +kernel
theorem d_M_init_169 : decode b_M_init 169 = .ok (.bipush 21, 2) := by decide +kernel
theorem d_M_init_171 : decode b_M_init 171 = .ok (.iconst 0, 1) := by decide +kernel
theorem d_M_init_172 : decode b_M_init 172 = .ok (.iastore, 1) := by decide +kernel
theorem d_M_init_173 : decode b_M_init 173 = .ok (.dup, 1) := by decide +kernel
theorem d_M_init_174 : decode b_M_init 174 = .ok (.bipush 22, 2) := by decide +kernel
theorem d_M_init_176 : decode b_M_init 176 = .ok (.iconst 0, 1) := by decide +kernel
theorem d_M_init_177 : decode b_M_init 177 = .ok (.iastore, 1) := by decide +kernel
theorem d_M_init_178 : decode b_M_init 178 = .ok (.dup, 1) := by decide +kernel
theorem d_M_init_179 : decode b_M_init 179 = .ok (.bipush 23, 2) := by decide +kernel
theorem d_M_init_181 : decode b_M_init 181 = .ok (.bipush 8, 2) := by decide +kernel
theorem d_M_init_183 : decode b_M_init 183 = .ok (.iastore, 1) := by decide +kernel
theorem d_M_init_184 : decode b_M_init 184 = .ok (.putfield 27, 3) := by decide +kernel
theorem d_M_init_187 : decode b_M_init 187 = .ok (.aload_n 0, 1) := by decide +kernel
theorem d_M_init_188 : decode b_M_init 188 = .ok (.bipush 40, 2) := by decide +kernel
theorem d_M_init_190 : decode b_M_init 190 = .ok (.newarray .int, 2) := by decide +kernel
theorem d_M_init_192 : decode b_M_init 192 = .ok (.dup, 1) := by decide +kernel
theorem d_M_init_193 : decode b_M_init 193 = .ok (.iconst 0, 1) := by decide +kernel
theorem d_M_init_194 : decode b_M_init 194 = .ok (.sipush 3040, 3) := by decide +kernel
theorem d_M_init_197 : decode b_M_init 197 = .ok (.iastore, 1) := by decide +kernel
theorem d_M_init_198 : decode b_M_init 198 = .ok (.dup, 1) := by decide +kernel
theorem d_M_init_199 : decode b_M_init 199 = .ok (.iconst 1, 1) := by decide +kernel
theorem d_M_init_200 : decode b_M_init 200 = .ok (.bipush 10, 2) := by decide +kernel
theorem d_M_init_202 : decode b_M_init 202 = .ok (.iastore, 1) := by decide +kernel
theorem d_M_init_203 : decode b_M_init 203 = .ok (.dup, 1) := by decide +kernel
theorem d_M_init_204 : decode b_M_init 204 = .ok (.iconst 2, 1) := by decide +kernel
theorem d_M_init_205 : decode b_M_init 205 = .ok (.sipush 3030, 3) := by decide +kernel
theorem d_M_init_208 : decode b_M_init 208 = .ok (.iastore, 1) := by decide +kernel
theorem d_M_init_209 : decode b_M_init 209 = .ok (.dup, 1) := by decide +kernel
theorem d_M_init_210 : decode b_M_init 210 = .ok (.iconst 3, 1) := by decide +kernel
theorem d_M_init_211 : decode b_M_init 211 = .ok (.bipush 11, 2) := by decide +kernel
theorem d_M_init_213 : decode b_M_init 213 = .ok (.iastore, 1) := by decide +kernel
theorem d_M_init_214 : decode b_M_init 214 = .ok (.dup, 1) := by decide +kernel
theorem d_M_init_215 : decode b_M_init 215 = .ok (.iconst 4, 1) := by decide +kernel
theorem d_M_init_216 : decode b_M_init 216 = .ok (.sipush 3031, 3) := by decide +kernel
theorem d_M_init_219 : decode b_M_init 219 = .ok (.iastore, 1) := by decide +kernel
theorem d_M_init_220 : decode b_M_init 220 = .ok (.dup, 1) := by decide +kernel
theorem d_M_init_221 : decode b_M_init 221 = .ok (.iconst 5, 1) := by decide +kernel
theorem d_M_init_222 : decode b_M_init 222 = .ok (.bipush 12, 2) := by decide +kernel
theorem d_M_init_224 : decode b_M_init 224 = .ok (.iastore, 1) := by decide +kernel
theorem d_M_init_225 : decode b_M_init 225 = .ok (.dup, 1) := by decide +kernel
theorem d_M_init_226 : decode b_M_init 226 = .ok (.bipush 6, 2) := by decide +kernel
theorem d_M_init_228 : decode b_M_init 228 = .ok (.sipush 2122, 3) := by decide +kernel
theorem d_M_init_231 : decode b_M_init 231 = .ok (.iastore, 1) := by decide +kernel
theorem d_M_init_232 : decode b_M_init 232 = .ok (.dup, 1) := by decide +kernel
theorem d_M_init_233 : decode b_M_init 233 = .ok (.bipush 7, 2) := by decide +kernel
theorem d_M_init_235 : decode b_M_init 235 = .ok (.bipush 13, 2) := by decide +kernel
theorem d_M_init_237 : decode b_M_init 237 = .ok (.iastore, 1) := by decide +kernel
theorem d_M_init_238 : decode b_M_init 238 = .ok (.dup, 1) := by decide +kernel
theorem d_M_init_239 : decode b_M_init 239 = .ok (.bipush 8, 2) := by decide +kernel
theorem d_M_init_241 : decode b_M_init 241 = .ok (.sipush 2131, 3) := by decide +kernel
theorem d_M_init_244 : decode b_M_init 244 = .ok (.iastore, 1) := by decide +kernel
theorem d_M_init_245 : decode b_M_init 245 = .ok (.dup, 1) := by decide +kernel
theorem d_M_init_246 : decode b_M_init 246 = .ok (.bipush 9, 2) := by decide +kernel
theorem d_M_init_248 : decode b_M_init 248 = .ok (.bipush 14, 2) := by decide +kernel
theorem d_M_init_250 : decode b_M_init 250 = .ok (.iastore, 1) := by decide +kernel
theorem d_M_init_251 : decode b_M_init 251 = .ok (.dup, 1) := by decide +kernel
theorem d_M_init_252 : decode b_M_init 252 = .ok (.bipush 10, 2) := by decide +kernel
theorem d_M_init_254 : decode b_M_init 254 = .ok (.sipush 2121, 3) := by decide +kernel
theorem d_M_init_257 : decode b_M_init 257 = .ok (.iastore, 1) := by decide +kernel
theorem d_M_init_258 : decode b_M_init 258 = .ok (.dup, 1) := by decide +kernel
theorem d_M_init_259 : decode b_M_init 259 = .ok (.bipush 11, 2) := by decide +kernel
theorem d_M_init_261 : decode b_M_init 261 = .ok (.bipush 17, 2) := by decide +kernel
theorem d_M_init_263 : decode b_M_init 263 = .ok (.iastore, 1) := by decide +kernel
theorem d_M_init_264 : decode b_M_init 264 = .ok (.dup, 1) := by decide +kernel
theorem d_M_init_265 : decode b_M_init 265 = .ok (.bipush 12, 2) := by decide +kernel
theorem d_M_init_267 : decode b_M_init 267 = .ok (.sipush 2031, 3) := by decide +kernel
theorem d_M_init_270 : decode b_M_init 270 = .ok (.iastore, 1) := by decide +kernel
theorem d_M_init_271 : decode b_M_init 271 = .ok (.dup, 1) := by decide +kernel
theorem d_M_init_272 : decode b_M_init 272 = .ok (.bipush 13, 2) := by decide +kernel
theorem d_M_init_274 : decode b_M_init 274 = .ok (.bipush 15, 2) := by decide +kernel
theorem d_M_init_276 : decode b_M_init 276 = .ok (.iastore, 1) := by decide +kernel
theorem d_M_init_277 : decode b_M_init 277 = .ok (.dup, 1) := by decide +kernel
theorem d_M_init_278 : decode b_M_init 278 = .ok (.bipush 14, 2) := by decide +kernel
theorem d_M_init_280 : decode b_M_init 280 = .ok (.sipush 2021, 3) := by decide +kernel
theorem d_M_init_283 : decode b_M_init 283 = .ok (.iastore, 1) := by decide +kernel
theorem d_M_init_284 : decode b_M_init 284 = .ok (.dup, 1) := by decide +kernel
theorem d_M_init_285 : decode b_M_init 285 = .ok (.bipush 15, 2) := by decide +kernel
theorem d_M_init_287 : decode b_M_init 287 = .ok (.bipush 18, 2) := by decide +kernel
theorem d_M_init_289 : decode b_M_init 289 = .ok (.iastore, 1) := by decide +kernel
theorem d_M_init_290 : decode b_M_init 290 = .ok (.dup, 1) := by decide +kernel
theorem d_M_init_291 : decode b_M_init 291 = .ok (.bipush 16, 2) := by decide +kernel
theorem d_M_init_293 : decode b_M_init 293 = .ok (.sipush 2030, 3) := by decide +kernel
theorem d_M_init_296 : decode b_M_init 296 = .ok (.iastore, 1) := by decide +kernel
theorem d_M_init_297 : decode b_M_init 297 = .ok (.dup, 1) := by decide +kernel
theorem d_M_init_298 : decode b_M_init 298 = .ok (.bipush 17, 2) := by decide +kernel
theorem d_M_init_300 : decode b_M_init 300 = .ok (.bipush 10, 2) := by decide +kernel
theorem d_M_init_302 : decode b_M_init 302 = .ok (.iastore, 1) := by decide +kernel
theorem d_M_init_303 : decode b_M_init 303 = .ok (.dup, 1) := by decide +kernel
theorem d_M_init_304 : decode b_M_init 304 = .ok (.bipush 18, 2) := by decide +kernel
theorem d_M_init_306 : decode b_M_init 306 = .ok (.sipush 2020, 3) := by decide +kernel
theorem d_M_init_309 : decode b_M_init 309 = .ok (.iastore, 1) := by decide +kernel
theorem d_M_init_310 : decode b_M_init 310 = .ok (.dup, 1) := by decide +kernel
theorem d_M_init_311 : decode b_M_init 311 = .ok (.bipush 19, 2) := by decide +kernel
theorem d_M_init_313 : decode b_M_init 313 = .ok (.bipush 21, 2) := by decide +kernel
theorem d_M_init_315 : decode b_M_init 315 = .ok (.iastore, 1) := by decide +kernel
theorem d_M_init_316 : decode b_M_init 316 = .ok (.dup, 1) := by decide +kernel
theorem d_M_init_317 : decode b_M_init 317 = .ok (.bipush 20, 2) := by decide +kernel
theorem d_M_init_319 : decode b_M_init 319 = .ok (.sipush 1122, 3) := by decide +kernel
theorem d_M_init_322 : decode b_M_init 322 = .ok (.iastore, 1) := by decide +kernel
theorem d_M_init_323 : decode b_M_init 323 = .ok (.dup, 1) := by decide +kernel
theorem d_M_init_324 : decode b_M_init 324 = .ok (.bipush 21, 2) := by decide +kernel
theorem d_M_init_326 : decode b_M_init 326 = .ok (.bipush 16, 2) := by decide +kernel
theorem d_M_init_328 : decode b_M_init 328 = .ok (.iastore, 1) := by decide +kernel
theorem d_M_init_329 : decode b_M_init 329 = .ok (.dup, 1) := by decide +kernel
theorem d_M_init_330 : decode b_M_init 330 = .ok (.bipush 22, 2) := by decide +kernel
theorem d_M_init_332 : decode b_M_init 332 = .ok (.sipush 1121, 3) := by decide +kernel
theorem d_M_init_335 : decode b_M_init 335 = .ok (.iastore, 1) := by decide +kernel
theorem d_M_init_336 : decode b_M_init 336 = .ok (.dup, 1) := by decide +kernel
theorem d_M_init_337 : decode b_M_init 337 = .ok (.bipush 23, 2) := by decide +kernel
theorem d_M_init_339 : decode b_M_init 339 = .ok (.bipush 19, 2) := by decide +kernel
theorem d_M_init_341 : decode b_M_init 341 = .ok (.iastore, 1) := by decide +kernel
theorem d_M_init_342 : decode b_M_init 342 = .ok (.dup, 1) := by decide +kernel
theorem d_M_init_343 : decode b_M_init 343 = .ok (.bipush 24, 2) := by decide +kernel
theorem d_M_init_345 : decode b_M_init 345 = .ok (.sipush 1111, 3) := by decide +kernel
theorem d_M_init_348 : decode b_M_init 348 = .ok (.iastore, 1) := by decide +kernel
theorem d_M_init_349 : decode b_M_init 349 = .ok (.dup, 1) := by decide +kernel
theorem d_M_init_350 : decode b_M_init 350 = .ok (.bipush 25, 2) := by decide +kernel
theorem d_M_init_352 : decode b_M_init 352 = .ok (.bipush 22, 2) := by decide +kernel
theorem d_M_init_354 : decode b_M_init 354 = .ok (.iastore, 1) := by decide +kernel
theorem d_M_init_355 : decode b_M_init 355 = .ok (.dup, 1) := by decide +kernel
theorem d_M_init_356 : decode b_M_init 356 = .ok (.bipush 26, 2) := by decide +kernel
theorem d_M_init_358 : decode b_M_init 358 = .ok (.sipush 1021, 3) := by decide +kernel
theorem d_M_init_361 : decode b_M_init 361 = .ok (.iastore, 1) := by decide +kernel
theorem d_M_init_362 : decode b_M_init 362 = .ok (.dup, 1) := by decide +kernel
theorem d_M_init_363 : decode b_M_init 363 = .ok (.bipush 27, 2) := by decide +kernel
theorem d_M_init_365 : decode b_M_init 365 = .ok (.bipush 20, 2) := by decide +kernel
theorem d_M_init_367 : decode b_M_init 367 = .ok (.iastore, 1) := by decide +kernel
theorem d_M_init_368 : decode b_M_init 368 = .ok (.dup, 1) := by decide +kernel
theorem d_M_init_369 : decode b_M_init 369 = .ok (.bipush 28, 2) := by decide +kernel
theorem d_M_init_371 : decode b_M_init 371 = .ok (.sipush 1011, 3) := by decide +kernel
theorem d_M_init_374 : decode b_M_init 374 = .ok (.iastore, 1) := by decide +kernel
theorem d_M_init_375 : decode b_M_init 375 = .ok (.dup, 1) := by decide +kernel
theorem d_M_init_376 : decode b_M_init 376 = .ok (.bipush 29, 2) := by decide +kernel
theorem d_M_init_378 : decode b_M_init 378 = .ok (.bipush 23, 2) := by decide +kernel
theorem d_M_init_380 : decode b_M_init 380 = .ok (.iastore, 1) := by decide +kernel
theorem d_M_init_381 : decode b_M_init 381 = .ok (.dup, 1) := by decide +kernel
theorem d_M_init_382 : decode b_M_init 382 = .ok (.bipush 30, 2) := by decide +kernel
theorem d_M_init_384 : decode b_M_init 384 = .ok (.sipush 1020, 3) := by decide +kernel
theorem d_M_init_387 : decode b_M_init 387 = .ok (.iastore, 1) := by decide +kernel
theorem d_M_init_388 : decode b_M_init 388 = .ok (.dup, 1) := by decide +kernel
theorem d_M_init_389 : decode b_M_init 389 = .ok (.bipush 31, 2) := by decide +kernel
theorem d_M_init_391 : decode b_M_init 391 = .ok (.bipush 10, 2) := by decide +kernel
theorem d_M_init_393 : decode b_M_init 393 = .ok (.iastore, 1) := by decide +kernel
theorem d_M_init_394 : decode b_M_init 394 = .ok (.dup, 1) := by decide +kernel
theorem d_M_init_395 : decode b_M_init 395 = .ok (.bipush 32, 2) := by decide +kernel
theorem d_M_init_397 : decode b_M_init 397 = .ok (.sipush 1010, 3) := by decide +kernel
theorem d_M_init_400 : decode b_M_init 400 = .ok (.iastore, 1) := by decide +kernel
theorem d_M_init_401 : decode b_M_init 401 = .ok (.dup, 1) := by decide +kernel
theorem d_M_init_402 : decode b_M_init 402 = .ok (.bipush 33, 2) := by decide +kernel
theorem d_M_init_404 : decode b_M_init 404 = .ok (.bipush 25, 2) := by decide +kernel
theorem d_M_init_406 : decode b_M_init 406 = .ok (.iastore, 1) := by decide +kernel
theorem d_M_init_407 : decode b_M_init 407 = .ok (.dup, 1) := by decide +kernel
theorem d_M_init_408 : decode b_M_init 408 = .ok (.bipush 34, 2) := by decide +kernel
theorem d_M_init_410 : decode b_M_init 410 = .ok (.bipush 11, 2) := by decide +kernel
theorem d_M_init_412 : decode b_M_init 412 = .ok (.iastore, 1) := by decide +kernel
theorem d_M_init_413 : decode b_M_init 413 = .ok (.dup, 1) := by decide +kernel
theorem d_M_init_414 : decode b_M_init 414 = .ok (.bipush 35, 2) := by decide +kernel
theorem d_M_init_416 : decode b_M_init 416 = .ok (.bipush 24, 2) := by decide +kernel
theorem d_M_init_418 : decode b_M_init 418 = .ok (.iastore, 1) := by decide +kernel
theorem d_M_init_419 : decode b_M_init 419 = .ok (.dup, 1) := by decide +kernel
theorem d_M_init_420 : decode b_M_init 420 = .ok (.bipush 36, 2) := by decide +kernel
theorem d_M_init_422 : decode b_M_init 422 = .ok (.bipush 10, 2) := by decide +kernel
theorem d_M_init_424 : decode b_M_init 424 = .ok (.iastore, 1) := by decide +kernel
theorem d_M_init_425 : decode b_M_init 425 = .ok (.dup, 1) := by decide +kernel
theorem d_M_init_426 : decode b_M_init 426 = .ok (.bipush 37, 2) := by decide +kernel
theorem d_M_init_428 : decode b_M_init 428 = .ok (.bipush 10, 2) := by decide +kernel
theorem d_M_init_430 : decode b_M_init 430 = .ok (.iastore, 1) := by decide +kernel
theorem d_M_init_431 : decode b_M_init 431 = .ok (.dup, 1) := by decide +kernel
theorem d_M_init_432 : decode b_M_init 432 = .ok (.bipush 38, 2) := by decide +kernel
theorem d_M_init_434 : decode b_M_init 434 = .ok (.iconst 0, 1) := by decide +kernel
theorem d_M_init_435 : decode b_M_init 435 = .ok (.iastore, 1) := by decide +kernel
theorem d_M_init_436 : decode b_M_init 436 = .ok (.dup, 1) := by decide +kernel
theorem d_M_init_437 : decode b_M_init 437 = .ok (.bipush 39, 2) := by decide +kernel
theorem d_M_init_439 : decode b_M_init 439 = .ok (.bipush 26, 2) := by decide +kernel
theorem d_M_init_441 : decode b_M_init 441 = .ok (.iastore, 1) := by decide +kernel
theorem d_M_init_442 : decode b_M_init 442 = .ok (.putfield 30, 3) := by decide +kernel
theorem d_M_init_445 : decode b_M_init 445 = .ok (.aload_n 0, 1) := by decide +kernel
theorem d_M_init_446 : decode b_M_init 446 = .ok (.iconst 4, 1) := by decide +kernel
theorem d_M_init_447 : decode b_M_init 447 = .ok (.newarray .long, 2) := by decide +kernel
theorem d_M_init_449 : decode b_M_init 449 = .ok (.putfield 33, 3) := by decide +kernel
theorem d_M_init_452 : decode b_M_init 452 = .ok (.aload_n 0, 1) := by decide +kernel
theorem d_M_init_453 : decode b_M_init 453 = .ok (.iconst 4, 1) := by decide +kernel
theorem d_M_init_454 : decode b_M_init 454 = .ok (.newarray .long, 2) := by decide +kernel
theorem d_M_init_456 : decode b_M_init 456 = .ok (.putfield 36, 3) := by decide +kernel
theorem d_M_init_459 : decode b_M_init 459 = .ok (.aload_n 0, 1) := by decide +kernel
theorem d_M_init_460 : decode b_M_init 460 = .ok (.bipush 12, 2) := by decide +kernel
theorem d_M_init_462 : decode b_M_init 462 = .ok (.newarray .long, 2) := by decide +kernel
theorem d_M_init_464 : decode b_M_init 464 = .ok (.putfield 39, 3) := by decide +kernel
theorem d_M_init_467 : decode b_M_init 467 = .ok (.aload_n 0, 1) := by decide +kernel
theorem d_M_init_468 : decode b_M_init 468 = .ok (.bipush 6, 2) := by decide +kernel
theorem d_M_init_470 : decode b_M_init 470 = .ok (.newarray .long, 2) := by decide +kernel
theorem d_M_init_472 : decode b_M_init 472 = .ok (.putfield 42, 3) := by decide +kernel
theorem d_M_init_475 : decode b_M_init 475 = .ok (.return_, 1) := by decide +kernel
theorem d_M_thrown_0 : decode b_M_thrown 0 = .ok (.aload_n 0, 1) := by decide +kernel
theorem d_M_thrown_1 : decode b_M_thrown 1 = .ok (.getfield 45, 3) := by decide +kernel
theorem d_M_thrown_4 : decode b_M_thrown 4 = .ok (.ireturn, 1) := by decide +kernel
theorem d_M_dimension_0 : decode b_M_dimension 0 = .ok (.aload_n 0, 1) := by decide +kernel
theorem d_M_dimension_1 : decode b_M_dimension 1 = .ok (.iconst 0, 1) := by decide +kernel
theorem d_M_dimension_2 : decode b_M_dimension 2 = .ok (.putfield 45, 3) := by decide +kernel
theorem d_M_dimension_5 : decode b_M_dimension 5 = .ok (.iload_n 1, 1) := by decide +kernel
theorem d_M_dimension_6 : decode b_M_dimension 6 = .ok (.iconst 2, 1) := by decide +kernel
theorem d_M_dimension_7 : decode b_M_dimension 7 = .ok (.if_icmp .eq 11, 3) := by decide +kernel
theorem d_M_dimension_10 : decode b_M_dimension 10 = .ok (.iload_n 1, 1) := by decide +kernel
theorem d_M_dimension_11 : decode b_M_dimension 11 = .ok (.iconst 3, 1) := by decide +kernel
theorem d_M_dimension_12 : decode b_M_dimension 12 = .ok (.if_icmp .eq 6, 3) := by decide +kernel
theorem d_M_dimension_15 : decode b_M_dimension 15 = .ok (.bipush (-2), 2) := by decide +kernel
theorem d_M_dimension_17 : decode b_M_dimension 17 = .ok (.ireturn, 1) := by decide +kernel
theorem d_M_dimension_18 : decode b_M_dimension 18 = .ok (.aload_n 0, 1) := by decide +kernel
theorem d_M_dimension_19 : decode b_M_dimension 19 = .ok (.getfield 7, 3) := by decide +kernel
theorem d_M_dimension_22 : decode b_M_dimension 22 = .ok (.istore_n 2, 1) := by decide +kernel
theorem d_M_dimension_23 : decode b_M_dimension 23 = .ok (.aload_n 0, 1) := by decide +kernel
theorem d_M_dimension_24 : decode b_M_dimension 24 = .ok (.iload_n 1, 1) := by decide +kernel
theorem d_M_dimension_25 : decode b_M_dimension 25 = .ok (.putfield 7, 3) := by decide +kernel
theorem d_M_dimension_28 : decode b_M_dimension 28 = .ok (.iconst 0, 1) := by decide +kernel
theorem d_M_dimension_29 : decode b_M_dimension 29 = .ok (.istore_n 3, 1) := by decide +kernel
theorem d_M_dimension_30 : decode b_M_dimension 30 = .ok (.iload_n 3, 1) := by decide +kernel
theorem d_M_dimension_31 : decode b_M_dimension 31 = .ok (.bipush 16, 2) := by decide +kernel
theorem d_M_dimension_33 : decode b_M_dimension 33 = .ok (.if_icmp .ge 16, 3) := by decide +kernel
theorem d_M_dimension_36 : decode b_M_dimension 36 = .ok (.aload_n 0, 1) := by decide +kernel
theorem d_M_dimension_37 : decode b_M_dimension 37 = .ok (.getfield 13, 3) := by decide +kernel
theorem d_M_dimension_40 : decode b_M_dimension 40 = .ok (.iload_n 3, 1) := by decide +kernel
theorem d_M_dimension_41 : decode b_M_dimension 41 = .ok (.iconst 0, 1) := by decide +kernel
theorem d_M_dimension_42 : decode b_M_dimension 42 = .ok (.iastore, 1) := by decide +kernel
theorem d_M_dimension_43 : decode b_M_dimension 43 = .ok (.iinc 3 1, 3) := by decide +kernel
theorem d_M_dimension_46 : decode b_M_dimension 46 = .ok (.goto (-16), 3) := by decide +kernel
theorem d_M_dimension_49 : decode b_M_dimension 49 = .ok (.aload_n 0, 1) := by decide +kernel
theorem d_M_dimension_50 : decode b_M_dimension 50 = .ok (.iconst 0, 1) := by decide +kernel
theorem d_M_dimension_51 : decode b_M_dimension 51 = .ok (.putfield 48, 3) := by decide +kernel
theorem d_M_dimension_54 : decode b_M_dimension 54 = .ok (.iload_n 2, 1) := by decide +kernel
theorem d_M_dimension_55 : decode b_M_dimension 55 = .ok (.ireturn, 1) := by decide +kernel
theorem d_M_put_0 : decode b_M_put 0 = .ok (.aload_n 0, 1) := by decide +kernel
theorem d_M_put_1 : decode b_M_put 1 = .ok (.iconst 0, 1) := by decide +kernel
theorem d_M_put_2 : decode b_M_put 2 = .ok (.putfield 45, 3) := by decide +kernel
theorem d_M_put_5 : decode b_M_put 5 = .ok (.iload_n 1, 1) := by decide +kernel
theorem d_M_put_6 : decode b_M_put 6 = .ok (.i2l, 1) := by decide +kernel
theorem d_M_put_7 : decode b_M_put 7 = .ok (.iconst 0, 1) := by decide +kernel
theorem d_M_put_8 : decode b_M_put 8 = .ok (.aload_n 0, 1) := by decide +kernel
theorem d_M_put_9 : decode b_M_put 9 = .ok (.getfield 7, 3) := by decide +kernel
theorem d_M_put_12 : decode b_M_put 12 = .ok (.invokestatic 52, 3) := by decide +kernel
theorem d_M_put_15 : decode b_M_put 15 = .ok (.ifCond .eq 28, 3) := by decide +kernel
theorem d_M_put_18 : decode b_M_put 18 = .ok (.iload_n 2, 1) := by decide +kernel
theorem d_M_put_19 : decode b_M_put 19 = .ok (.i2l, 1) := by decide +kernel
theorem d_M_put_20 : decode b_M_put 20 = .ok (.iconst 0, 1) := by decide +kernel
theorem d_M_put_21 : decode b_M_put 21 = .ok (.aload_n 0, 1) := by decide +kernel
theorem d_M_put_22 : decode b_M_put 22 = .ok (.getfield 7, 3) := by decide +kernel
theorem d_M_put_25 : decode b_M_put 25 = .ok (.invokestatic 52, 3) := by decide +kernel
theorem d_M_put_28 : decode b_M_put 28 = .ok (.ifCond .eq 15, 3) := by decide +kernel
theorem d_M_put_31 : decode b_M_put 31 = .ok (.iload_n 3, 1) := by decide +kernel
theorem d_M_put_32 : decode b_M_put 32 = .ok (.i2l, 1) := by decide +kernel
theorem d_M_put_33 : decode b_M_put 33 = .ok (.bipush (-20), 2) := by decide +kernel
theorem d_M_put_35 : decode b_M_put 35 = .ok (.bipush 20, 2) := by decide +kernel
theorem d_M_put_37 : decode b_M_put 37 = .ok (.invokestatic 52, 3) := by decide +kernel
theorem d_M_put_40 : decode b_M_put 40 = .ok (.ifCond .ne 7, 3) := by decide +kernel
theorem d_M_put_43 : decode b_M_put 43 = .ok (.ldc2_w 56, 3) := by decide +kernel
theorem d_M_put_46 : decode b_M_put 46 = .ok (.lreturn, 1) := by decide +kernel
theorem d_M_put_47 : decode b_M_put 47 = .ok (.aload_n 0, 1) := by decide +kernel
theorem d_M_put_48 : decode b_M_put 48 = .ok (.getfield 13, 3) := by decide +kernel
theorem d_M_put_51 : decode b_M_put 51 = .ok (.iconst 4, 1) := by decide +kernel
theorem d_M_put_52 : decode b_M_put 52 = .ok (.iload_n 1, 1) := by decide +kernel
theorem d_M_put_53 : decode b_M_put 53 = .ok (.imul, 1) := by decide +kernel
theorem d_M_put_54 : decode b_M_put 54 = .ok (.iload_n 2, 1) := by decide +kernel
theorem d_M_put_55 : decode b_M_put 55 = .ok (.iadd, 1) := by decide +kernel
theorem d_M_put_56 : decode b_M_put 56 = .ok (.iaload, 1) := by decide +kernel
theorem d_M_put_57 : decode b_M_put 57 = .ok (.istore 4, 2) := by decide +kernel
theorem d_M_put_59 : decode b_M_put 59 = .ok (.aload_n 0, 1) := by decide +kernel
theorem d_M_put_60 : decode b_M_put 60 = .ok (.getfield 13, 3) := by decide +kernel
theorem d_M_put_63 : decode b_M_put 63 = .ok (.iconst 4, 1) := by decide +kernel
theorem d_M_put_64 : decode b_M_put 64 = .ok (.iload_n 1, 1) := by decide +kernel
theorem d_M_put_65 : decode b_M_put 65 = .ok (.imul, 1) := by decide +kernel
theorem d_M_put_66 : decode b_M_put 66 = .ok (.iload_n 2, 1) := by decide +kernel
theorem d_M_put_67 : decode b_M_put 67 = .ok (.iadd, 1) := by decide +kernel
theorem d_M_put_68 : decode b_M_put 68 = .ok (.iload_n 3, 1) := by decide +kernel
theorem d_M_put_69 : decode b_M_put 69 = .ok (.iastore, 1) := by decide +kernel
theorem d_M_put_70 : decode b_M_put 70 = .ok (.aload_n 0, 1) := by decide +kernel
theorem d_M_put_71 : decode b_M_put 71 = .ok (.getfield 13, 3) := by decide +kernel
theorem d_M_put_74 : decode b_M_put 74 = .ok (.iconst 4, 1) := by decide +kernel
theorem d_M_put_75 : decode b_M_put 75 = .ok (.iload_n 2, 1) := by decide +kernel
theorem d_M_put_76 : decode b_M_put 76 = .ok (.imul, 1) := by decide +kernel
theorem d_M_put_77 : decode b_M_put 77 = .ok (.iload_n 1, 1) := by decide +kernel
theorem d_M_put_78 : decode b_M_put 78 = .ok (.iadd, 1) := by decide +kernel
theorem d_M_put_79 : decode b_M_put 79 = .ok (.iload_n 3, 1) := by decide +kernel
theorem d_M_put_80 : decode b_M_put 80 = .ok (.iastore, 1) := by decide +kernel
theorem d_M_put_81 : decode b_M_put 81 = .ok (.iload 4, 2) := by decide +kernel
theorem d_M_put_83 : decode b_M_put 83 = .ok (.i2l, 1) := by decide +kernel
theorem d_M_put_84 : decode b_M_put 84 = .ok (.lreturn, 1) := by decide +kernel
theorem d_M_in_0 : decode b_M_in 0 = .ok (.lload_n 0, 1) := by decide +kernel
theorem d_M_in_1 : decode b_M_in 1 = .ok (.iload_n 2, 1) := by decide +kernel
theorem d_M_in_2 : decode b_M_in 2 = .ok (.i2l, 1) := by decide +kernel
theorem d_M_in_3 : decode b_M_in 3 = .ok (.lcmp, 1) := by decide +kernel
theorem d_M_in_4 : decode b_M_in 4 = .ok (.ifCond .lt 14, 3) := by decide +kernel
theorem d_M_in_7 : decode b_M_in 7 = .ok (.lload_n 0, 1) := by decide +kernel
theorem d_M_in_8 : decode b_M_in 8 = .ok (.iload_n 3, 1) := by decide +kernel
theorem d_M_in_9 : decode b_M_in 9 = .ok (.i2l, 1) := by decide +kernel
theorem d_M_in_10 : decode b_M_in 10 = .ok (.lcmp, 1) := by decide +kernel
theorem d_M_in_11 : decode b_M_in 11 = .ok (.ifCond .gt 7, 3) := by decide +kernel
theorem d_M_in_14 : decode b_M_in 14 = .ok (.iconst 1, 1) := by decide +kernel
theorem d_M_in_15 : decode b_M_in 15 = .ok (.goto 4, 3) := by decide +kernel
theorem d_M_in_18 : decode b_M_in 18 = .ok (.iconst 0, 1) := by decide +kernel
theorem d_M_in_19 : decode b_M_in 19 = .ok (.ireturn, 1) := by decide +kernel
theorem d_M_kind_0 : decode b_M_kind 0 = .ok (.aload_n 0, 1) := by decide +kernel
theorem d_M_kind_1 : decode b_M_kind 1 = .ok (.iconst 0, 1) := by decide +kernel
theorem d_M_kind_2 : decode b_M_kind 2 = .ok (.putfield 45, 3) := by decide +kernel
theorem d_M_kind_5 : decode b_M_kind 5 = .ok (.aload_n 0, 1) := by decide +kernel
theorem d_M_kind_6 : decode b_M_kind 6 = .ok (.invokevirtual 111, 3) := by decide +kernel
theorem d_M_kind_9 : decode b_M_kind 9 = .ok (.ireturn, 1) := by decide +kernel
theorem d_M_ownKind_0 : decode b_M_ownKind 0 = .ok (.aload_n 0, 1) := by decide +kernel
theorem d_M_ownKind_1 : decode b_M_ownKind 1 = .ok (.invokevirtual 104, 3) := by decide +kernel
theorem d_M_ownKind_4 : decode b_M_ownKind 4 = .ok (.aload_n 0, 1) := by decide +kernel
theorem d_M_ownKind_5 : decode b_M_ownKind 5 = .ok (.aload_n 0, 1) := by decide +kernel
theorem d_M_ownKind_6 : decode b_M_ownKind 6 = .ok (.getfield 7, 3) := by decide +kernel
theorem d_M_ownKind_9 : decode b_M_ownKind 9 = .ok (.iconst 2, 1) := by decide +kernel
theorem d_M_ownKind_10 : decode b_M_ownKind 10 = .ok (.if_icmp .ne 7, 3) := by decide +kernel
theorem d_M_ownKind_13 : decode b_M_ownKind 13 = .ok (.iconst 1, 1) := by decide +kernel
theorem d_M_ownKind_14 : decode b_M_ownKind 14 = .ok (.goto 4, 3) := by decide +kernel
theorem d_M_ownKind_17 : decode b_M_ownKind 17 = .ok (.iconst 0, 1) := by decide +kernel
theorem d_M_ownKind_18 : decode b_M_ownKind 18 = .ok (.invokevirtual 107, 3) := by decide +kernel
theorem d_M_ownKind_21 : decode b_M_ownKind 21 = .ok (.ireturn, 1) := by decide +kernel
theorem d_M_findAll_0 : decode b_M_findAll 0 = .ok (.aload_n 0, 1) := by decide +kernel
theorem d_M_findAll_1 : decode b_M_findAll 1 = .ok (.iconst 0, 1) := by decide +kernel
theorem d_M_findAll_2 : decode b_M_findAll 2 = .ok (.invokevirtual 97, 3) := by decide +kernel
theorem d_M_findAll_5 : decode b_M_findAll 5 = .ok (.aload_n 0, 1) := by decide +kernel
theorem d_M_findAll_6 : decode b_M_findAll 6 = .ok (.invokevirtual 101, 3) := by decide +kernel
theorem d_M_findAll_9 : decode b_M_findAll 9 = .ok (.aload_n 0, 1) := by decide +kernel
theorem d_M_findAll_10 : decode b_M_findAll 10 = .ok (.aload_n 0, 1) := by decide +kernel
theorem d_M_findAll_11 : decode b_M_findAll 11 = .ok (.getfield 76, 3) := by decide +kernel
theorem d_M_findAll_14 : decode b_M_findAll 14 = .ok (.putfield 88, 3) := by decide +kernel
theorem d_M_findAll_17 : decode b_M_findAll 17 = .ok (.aload_n 0, 1) := by decide +kernel
theorem d_M_findAll_18 : decode b_M_findAll 18 = .ok (.aload_n 0, 1) := by decide +kernel
theorem d_M_findAll_19 : decode b_M_findAll 19 = .ok (.getfield 79, 3) := by decide +kernel
theorem d_M_findAll_22 : decode b_M_findAll 22 = .ok (.putfield 85, 3) := by decide +kernel
theorem d_M_findAll_25 : decode b_M_findAll 25 = .ok (.aload_n 0, 1) := by decide +kernel
theorem d_M_findAll_26 : decode b_M_findAll 26 = .ok (.iconst 1, 1) := by decide +kernel
theorem d_M_findAll_27 : decode b_M_findAll 27 = .ok (.invokevirtual 97, 3) := by decide +kernel
theorem d_M_findAll_30 : decode b_M_findAll 30 = .ok (.aload_n 0, 1) := by decide +kernel
theorem d_M_findAll_31 : decode b_M_findAll 31 = .ok (.invokevirtual 101, 3) := by decide +kernel
theorem d_M_findAll_34 : decode b_M_findAll 34 = .ok (.aload_n 0, 1) := by decide +kernel
theorem d_M_findAll_35 : decode b_M_findAll 35 = .ok (.aload_n 0, 1) := by decide +kernel
theorem d_M_findAll_36 : decode b_M_findAll 36 = .ok (.getfield 76, 3) := by decide +kernel
theorem d_M_findAll_39 : decode b_M_findAll 39 = .ok (.putfield 94, 3) := by decide +kernel
theorem d_M_findAll_42 : decode b_M_findAll 42 = .ok (.aload_n 0, 1) := by decide +kernel
theorem d_M_findAll_43 : decode b_M_findAll 43 = .ok (.aload_n 0, 1) := by decide +kernel
theorem d_M_findAll_44 : decode b_M_findAll 44 = .ok (.getfield 79, 3) := by decide +kernel
theorem d_M_findAll_47 : decode b_M_findAll 47 = .ok (.putfield 91, 3) := by decide +kernel
theorem d_M_findAll_50 : decode b_M_findAll 50 = .ok (.return_, 1) := by decide +kernel
theorem d_M_take_0 : decode b_M_take 0 = .ok (.iload_n 1, 1) := by decide +kernel
theorem d_M_take_1 : decode b_M_take 1 = .ok (.ifCond .eq 7, 3) := by decide +kernel
theorem d_M_take_4 : decode b_M_take 4 = .ok (.iconst 0, 1) := by decide +kernel
theorem d_M_take_5 : decode b_M_take 5 = .ok (.goto 4, 3) := by decide +kernel
theorem d_M_take_8 : decode b_M_take 8 = .ok (.iconst 1, 1) := by decide +kernel
theorem d_M_take_9 : decode b_M_take 9 = .ok (.istore_n 2, 1) := by decide +kernel
theorem d_M_take_10 : decode b_M_take 10 = .ok (.aload_n 0, 1) := by decide +kernel
theorem d_M_take_11 : decode b_M_take 11 = .ok (.aload_n 0, 1) := by decide +kernel
theorem d_M_take_12 : decode b_M_take 12 = .ok (.getfield 7, 3) := by decide +kernel
theorem d_M_take_15 : decode b_M_take 15 = .ok (.iconst 1, 1) := by decide +kernel
theorem d_M_take_16 : decode b_M_take 16 = .ok (.iadd, 1) := by decide +kernel
theorem d_M_take_17 : decode b_M_take 17 = .ok (.iload_n 2, 1) := by decide +kernel
theorem d_M_take_18 : decode b_M_take 18 = .ok (.isub, 1) := by decide +kernel
theorem d_M_take_19 : decode b_M_take 19 = .ok (.putfield 58, 3) := by decide +kernel
theorem d_M_take_22 : decode b_M_take 22 = .ok (.iconst 0, 1) := by decide +kernel
theorem d_M_take_23 : decode b_M_take 23 = .ok (.istore_n 3, 1) := by decide +kernel
theorem d_M_take_24 : decode b_M_take 24 = .ok (.iload_n 3, 1) := by decide +kernel
theorem d_M_take_25 : decode b_M_take 25 = .ok (.aload_n 0, 1) := by decide +kernel
theorem d_M_take_26 : decode b_M_take 26 = .ok (.getfield 58, 3) := by decide +kernel
theorem d_M_take_29 : decode b_M_take 29 = .ok (.if_icmp .ge 54, 3) := by decide +kernel
theorem d_M_take_32 : decode b_M_take 32 = .ok (.iconst 0, 1) := by decide +kernel
theorem d_M_take_33 : decode b_M_take 33 = .ok (.istore 4, 2) := by decide +kernel
theorem d_M_take_35 : decode b_M_take 35 = .ok (.iload 4, 2) := by decide +kernel
theorem d_M_take_37 : decode b_M_take 37 = .ok (.aload_n 0, 1) := by decide +kernel
theorem d_M_take_38 : decode b_M_take 38 = .ok (.getfield 58, 3) := by decide +kernel
theorem d_M_take_41 : decode b_M_take 41 = .ok (.if_icmp .ge 36, 3) := by decide +kernel
theorem d_M_take_44 : decode b_M_take 44 = .ok (.aload_n 0, 1) := by decide +kernel
theorem d_M_take_45 : decode b_M_take 45 = .ok (.getfield 20, 3) := by decide +kernel
theorem d_M_take_48 : decode b_M_take 48 = .ok (.iconst 4, 1) := by decide +kernel
theorem d_M_take_49 : decode b_M_take 49 = .ok (.iload_n 3, 1) := by decide +kernel
theorem d_M_take_50 : decode b_M_take 50 = .ok (.imul, 1) := by decide +kernel
theorem d_M_take_51 : decode b_M_take 51 = .ok (.iload 4, 2) := by decide +kernel
theorem d_M_take_53 : decode b_M_take 53 = .ok (.iadd, 1) := by decide +kernel
theorem d_M_take_54 : decode b_M_take 54 = .ok (.aload_n 0, 1) := by decide +kernel
theorem d_M_take_55 : decode b_M_take 55 = .ok (.getfield 13, 3) := by decide +kernel
theorem d_M_take_58 : decode b_M_take 58 = .ok (.iconst 4, 1) := by decide +kernel
theorem d_M_take_59 : decode b_M_take 59 = .ok (.iload_n 3, 1) := by decide +kernel
theorem d_M_take_60 : decode b_M_take 60 = .ok (.iload_n 2, 1) := by decide +kernel
theorem d_M_take_61 : decode b_M_take 61 = .ok (.iadd, 1) := by decide +kernel
theorem d_M_take_62 : decode b_M_take 62 = .ok (.imul, 1) := by decide +kernel
theorem d_M_take_63 : decode b_M_take 63 = .ok (.iload 4, 2) := by decide +kernel
theorem d_M_take_65 : decode b_M_take 65 = .ok (.iadd, 1) := by decide +kernel
theorem d_M_take_66 : decode b_M_take 66 = .ok (.iload_n 2, 1) := by decide +kernel
theorem d_M_take_67 : decode b_M_take 67 = .ok (.iadd, 1) := by decide +kernel
theorem d_M_take_68 : decode b_M_take 68 = .ok (.iaload, 1) := by decide +kernel
theorem d_M_take_69 : decode b_M_take 69 = .ok (.i2l, 1) := by decide +kernel
theorem d_M_take_70 : decode b_M_take 70 = .ok (.lastore, 1) := by decide +kernel
theorem d_M_take_71 : decode b_M_take 71 = .ok (.iinc 4 1, 3) := by decide +kernel
theorem d_M_take_74 : decode b_M_take 74 = .ok (.goto (-39), 3) := by decide +kernel
theorem d_M_take_77 : decode b_M_take 77 = .ok (.iinc 3 1, 3) := by decide +kernel
theorem d_M_take_80 : decode b_M_take 80 = .ok (.goto (-56), 3) := by decide +kernel
theorem d_M_take_83 : decode b_M_take 83 = .ok (.return_, 1) := by decide +kernel
theorem d_M_findSigns_0 : decode b_M_findSigns 0 = .ok (.aload_n 0, 1) := by decide +kernel
theorem d_M_findSigns_1 : decode b_M_findSigns 1 = .ok (.iconst 0, 1) := by decide +kernel
theorem d_M_findSigns_2 : decode b_M_findSigns 2 = .ok (.putfield 76, 3) := by decide +kernel
theorem d_M_findSigns_5 : decode b_M_findSigns 5 = .ok (.aload_n 0, 1) := by decide +kernel
theorem d_M_findSigns_6 : decode b_M_findSigns 6 = .ok (.iconst 0, 1) := by decide +kernel
theorem d_M_findSigns_7 : decode b_M_findSigns 7 = .ok (.putfield 79, 3) := by decide +kernel
theorem d_M_findSigns_10 : decode b_M_findSigns 10 = .ok (.lconst 1, 1) := by decide +kernel
theorem d_M_findSigns_11 : decode b_M_findSigns 11 = .ok (.lstore_n 1, 1) := by decide +kernel
theorem d_M_findSigns_12 : decode b_M_findSigns 12 = .ok (.lconst 1, 1) := by decide +kernel
theorem d_M_findSigns_13 : decode b_M_findSigns 13 = .ok (.lstore_n 3, 1) := by decide +kernel
theorem d_M_findSigns_14 : decode b_M_findSigns 14 = .ok (.iconst 1, 1) := by decide +kernel
theorem d_M_findSigns_15 : decode b_M_findSigns 15 = .ok (.istore 5, 2) := by decide +kernel
theorem d_M_findSigns_17 : decode b_M_findSigns 17 = .ok (.iload 5, 2) := by decide +kernel
theorem d_M_findSigns_19 : decode b_M_findSigns 19 = .ok (.aload_n 0, 1) := by decide +kernel
theorem d_M_findSigns_20 : decode b_M_findSigns 20 = .ok (.getfield 58, 3) := by decide +kernel
theorem d_M_findSigns_23 : decode b_M_findSigns 23 = .ok (.if_icmp .gt 128, 3) := by decide +kernel
theorem d_M_findSigns_26 : decode b_M_findSigns 26 = .ok (.aload_n 0, 1) := by decide +kernel
theorem d_M_findSigns_27 : decode b_M_findSigns 27 = .ok (.iload 5, 2) := by decide +kernel
theorem d_M_findSigns_29 : decode b_M_findSigns 29 = .ok (.invokevirtual 82, 3) := by decide +kernel
theorem d_M_findSigns_32 : decode b_M_findSigns 32 = .ok (.lstore 6, 2) := by decide +kernel
theorem d_M_findSigns_34 : decode b_M_findSigns 34 = .ok (.iload 5, 2) := by decide +kernel
theorem d_M_findSigns_36 : decode b_M_findSigns 36 = .ok (.iconst 2, 1) := by decide +kernel
theorem d_M_findSigns_37 : decode b_M_findSigns 37 = .ok (.irem, 1) := by decide +kernel
theorem d_M_findSigns_38 : decode b_M_findSigns 38 = .ok (.iconst 1, 1) := by decide +kernel
theorem d_M_findSigns_39 : decode b_M_findSigns 39 = .ok (.if_icmp .ne 9, 3) := by decide +kernel
theorem d_M_findSigns_42 : decode b_M_findSigns 42 = .ok (.lload 6, 2) := by decide +kernel
theorem d_M_findSigns_44 : decode b_M_findSigns 44 = .ok (.lneg, 1) := by decide +kernel
theorem d_M_findSigns_45 : decode b_M_findSigns 45 = .ok (.goto 5, 3) := by decide +kernel
theorem d_M_findSigns_48 : decode b_M_findSigns 48 = .ok (.lload 6, 2) := by decide +kernel
theorem d_M_findSigns_50 : decode b_M_findSigns 50 = .ok (.lstore 8, 2) := by decide +kernel
theorem d_M_findSigns_52 : decode b_M_findSigns 52 = .ok (.lload 6, 2) := by decide +kernel
theorem d_M_findSigns_54 : decode b_M_findSigns 54 = .ok (.lconst 0, 1) := by decide +kernel
theorem d_M_findSigns_55 : decode b_M_findSigns 55 = .ok (.lcmp, 1) := by decide +kernel
theorem d_M_findSigns_56 : decode b_M_findSigns 56 = .ok (.ifCond .eq 89, 3) := by decide +kernel
theorem d_M_findSigns_59 : decode b_M_findSigns 59 = .ok (.aload_n 0, 1) := by decide +kernel
theorem d_M_findSigns_60 : decode b_M_findSigns 60 = .ok (.dup, 1) := by decide +kernel
theorem d_M_findSigns_61 : decode b_M_findSigns 61 = .ok (.getfield 79, 3) := by decide +kernel
theorem d_M_findSigns_64 : decode b_M_findSigns 64 = .ok (.lload 6, 2) := by decide +kernel
theorem d_M_findSigns_66 : decode b_M_findSigns 66 = .ok (.lconst 0, 1) := by decide +kernel
theorem d_M_findSigns_67 : decode b_M_findSigns 67 = .ok (.lcmp, 1) := by decide +kernel
theorem d_M_findSigns_68 : decode b_M_findSigns 68 = .ok (.ifCond .le 7, 3) := by decide +kernel
theorem d_M_findSigns_71 : decode b_M_findSigns 71 = .ok (.iconst 1, 1) := by decide +kernel
theorem d_M_findSigns_72 : decode b_M_findSigns 72 = .ok (.goto 4, 3) := by decide +kernel
theorem d_M_findSigns_75 : decode b_M_findSigns 75 = .ok (.iconst 0, 1) := by decide +kernel
theorem d_M_findSigns_76 : decode b_M_findSigns 76 = .ok (.lload_n 3, 1) := by decide +kernel
theorem d_M_findSigns_77 : decode b_M_findSigns 77 = .ok (.lconst 0, 1) := by decide +kernel
theorem d_M_findSigns_78 : decode b_M_findSigns 78 = .ok (.lcmp, 1) := by decide +kernel
theorem d_M_findSigns_79 : decode b_M_findSigns 79 = .ok (.ifCond .le 7, 3) := by decide +kernel
theorem d_M_findSigns_82 : decode b_M_findSigns 82 = .ok (.iconst 1, 1) := by decide +kernel
theorem d_M_findSigns_83 : decode b_M_findSigns 83 = .ok (.goto 4, 3) := by decide +kernel
theorem d_M_findSigns_86 : decode b_M_findSigns 86 = .ok (.iconst 0, 1) := by decide +kernel
theorem d_M_findSigns_87 : decode b_M_findSigns 87 = .ok (.if_icmp .eq 7, 3) := by decide +kernel
theorem d_M_findSigns_90 : decode b_M_findSigns 90 = .ok (.iconst 1, 1) := by decide +kernel
theorem d_M_findSigns_91 : decode b_M_findSigns 91 = .ok (.goto 4, 3) := by decide +kernel
theorem d_M_findSigns_94 : decode b_M_findSigns 94 = .ok (.iconst 0, 1) := by decide +kernel
theorem d_M_findSigns_95 : decode b_M_findSigns 95 = .ok (.iadd, 1) := by decide +kernel
theorem d_M_findSigns_96 : decode b_M_findSigns 96 = .ok (.putfield 79, 3) := by decide +kernel
theorem d_M_findSigns_99 : decode b_M_findSigns 99 = .ok (.aload_n 0, 1) := by decide +kernel
theorem d_M_findSigns_100 : decode b_M_findSigns 100 = .ok (.dup, 1) := by decide +kernel
theorem d_M_findSigns_101 : decode b_M_findSigns 101 = .ok (.getfield 76, 3) := by decide +kernel
theorem d_M_findSigns_104 : decode b_M_findSigns 104 = .ok (.lload 8, 2) := by decide +kernel
theorem d_M_findSigns_106 : decode b_M_findSigns 106 = .ok (.lconst 0, 1) := by decide +kernel
theorem d_M_findSigns_107 : decode b_M_findSigns 107 = .ok (.lcmp, 1) := by decide +kernel
theorem d_M_findSigns_108 : decode b_M_findSigns 108 = .ok (.ifCond .le 7, 3) := by decide +kernel
theorem d_M_findSigns_111 : decode b_M_findSigns 111 = .ok (.iconst 1, 1) := by decide +kernel
theorem d_M_findSigns_112 : decode b_M_findSigns 112 = .ok (.goto 4, 3) := by decide +kernel
theorem d_M_findSigns_115 : decode b_M_findSigns 115 = .ok (.iconst 0, 1) := by decide +kernel
theorem d_M_findSigns_116 : decode b_M_findSigns 116 = .ok (.lload_n 1, 1) := by decide +kernel
theorem d_M_findSigns_117 : decode b_M_findSigns 117 = .ok (.lconst 0, 1) := by decide +kernel
theorem d_M_findSigns_118 : decode b_M_findSigns 118 = .ok (.lcmp, 1) := by decide +kernel
theorem d_M_findSigns_119 : decode b_M_findSigns 119 = .ok (.ifCond .le 7, 3) := by decide +kernel
theorem d_M_findSigns_122 : decode b_M_findSigns 122 = .ok (.iconst 1, 1) := by decide +kernel
theorem d_M_findSigns_123 : decode b_M_findSigns 123 = .ok (.goto 4, 3) := by decide +kernel
theorem d_M_findSigns_126 : decode b_M_findSigns 126 = .ok (.iconst 0, 1) := by decide +kernel
theorem d_M_findSigns_127 : decode b_M_findSigns 127 = .ok (.if_icmp .eq 7, 3) := by decide +kernel
theorem d_M_findSigns_130 : decode b_M_findSigns 130 = .ok (.iconst 1, 1) := by decide +kernel
theorem d_M_findSigns_131 : decode b_M_findSigns 131 = .ok (.goto 4, 3) := by decide +kernel
theorem d_M_findSigns_134 : decode b_M_findSigns 134 = .ok (.iconst 0, 1) := by decide +kernel
theorem d_M_findSigns_135 : decode b_M_findSigns 135 = .ok (.iadd, 1) := by decide +kernel
theorem d_M_findSigns_136 : decode b_M_findSigns 136 = .ok (.putfield 76, 3) := by decide +kernel
theorem d_M_findSigns_139 : decode b_M_findSigns 139 = .ok (.lload 6, 2) := by decide +kernel
theorem d_M_findSigns_141 : decode b_M_findSigns 141 = .ok (.lstore_n 3, 1) := by decide +kernel
theorem d_M_findSigns_142 : decode b_M_findSigns 142 = .ok (.lload 8, 2) := by decide +kernel
theorem d_M_findSigns_144 : decode b_M_findSigns 144 = .ok (.lstore_n 1, 1) := by decide +kernel
theorem d_M_findSigns_145 : decode b_M_findSigns 145 = .ok (.iinc 5 1, 3) := by decide +kernel
theorem d_M_findSigns_148 : decode b_M_findSigns 148 = .ok (.goto (-131), 3) := by decide +kernel
theorem d_M_findSigns_151 : decode b_M_findSigns 151 = .ok (.return_, 1) := by decide +kernel
theorem d_M_sums_0 : decode b_M_sums 0 = .ok (.lconst 0, 1) := by decide +kernel
theorem d_M_sums_1 : decode b_M_sums 1 = .ok (.lstore_n 2, 1) := by decide +kernel
theorem d_M_sums_2 : decode b_M_sums 2 = .ok (.iconst 0, 1) := by decide +kernel
theorem d_M_sums_3 : decode b_M_sums 3 = .ok (.istore 4, 2) := by decide +kernel
theorem d_M_sums_5 : decode b_M_sums 5 = .ok (.iload 4, 2) := by decide +kernel
theorem d_M_sums_7 : decode b_M_sums 7 = .ok (.iconst 1, 1) := by decide +kernel
theorem d_M_sums_8 : decode b_M_sums 8 = .ok (.aload_n 0, 1) := by decide +kernel
theorem d_M_sums_9 : decode b_M_sums 9 = .ok (.getfield 58, 3) := by decide +kernel
theorem d_M_sums_12 : decode b_M_sums 12 = .ok (.ishl, 1) := by decide +kernel
theorem d_M_sums_13 : decode b_M_sums 13 = .ok (.if_icmp .ge 31, 3) := by decide +kernel
theorem d_M_sums_16 : decode b_M_sums 16 = .ok (.lload_n 2, 1) := by decide +kernel
theorem d_M_sums_17 : decode b_M_sums 17 = .ok (.iload 4, 2) := by decide +kernel
theorem d_M_sums_19 : decode b_M_sums 19 = .ok (.invokestatic 69, 3) := by decide +kernel
theorem d_M_sums_22 : decode b_M_sums 22 = .ok (.iload_n 1, 1) := by decide +kernel
theorem d_M_sums_23 : decode b_M_sums 23 = .ok (.if_icmp .ne 12, 3) := by decide +kernel
theorem d_M_sums_26 : decode b_M_sums 26 = .ok (.aload_n 0, 1) := by decide +kernel
theorem d_M_sums_27 : decode b_M_sums 27 = .ok (.iload 4, 2) := by decide +kernel
theorem d_M_sums_29 : decode b_M_sums 29 = .ok (.invokevirtual 73, 3) := by decide +kernel
theorem d_M_sums_32 : decode b_M_sums 32 = .ok (.goto 4, 3) := by decide +kernel
theorem d_M_sums_35 : decode b_M_sums 35 = .ok (.lconst 0, 1) := by decide +kernel
theorem d_M_sums_36 : decode b_M_sums 36 = .ok (.ladd, 1) := by decide +kernel
theorem d_M_sums_37 : decode b_M_sums 37 = .ok (.lstore_n 2, 1) := by decide +kernel
theorem d_M_sums_38 : decode b_M_sums 38 = .ok (.iinc 4 1, 3) := by decide +kernel
theorem d_M_sums_41 : decode b_M_sums 41 = .ok (.goto (-36), 3) := by decide +kernel
theorem d_M_sums_44 : decode b_M_sums 44 = .ok (.lload_n 2, 1) := by decide +kernel
theorem d_M_sums_45 : decode b_M_sums 45 = .ok (.lreturn, 1) := by decide +kernel
theorem d_M_bitsOf_0 : decode b_M_bitsOf 0 = .ok (.iconst 0, 1) := by decide +kernel
theorem d_M_bitsOf_1 : decode b_M_bitsOf 1 = .ok (.istore_n 1, 1) := by decide +kernel
theorem d_M_bitsOf_2 : decode b_M_bitsOf 2 = .ok (.iconst 0, 1) := by decide +kernel
theorem d_M_bitsOf_3 : decode b_M_bitsOf 3 = .ok (.istore_n 2, 1) := by decide +kernel
theorem d_M_bitsOf_4 : decode b_M_bitsOf 4 = .ok (.iload_n 2, 1) := by decide +kernel
theorem d_M_bitsOf_5 : decode b_M_bitsOf 5 = .ok (.iconst 4, 1) := by decide +kernel
theorem d_M_bitsOf_6 : decode b_M_bitsOf 6 = .ok (.if_icmp .ge 17, 3) := by decide +kernel
theorem d_M_bitsOf_9 : decode b_M_bitsOf 9 = .ok (.iload_n 1, 1) := by decide +kernel
theorem d_M_bitsOf_10 : decode b_M_bitsOf 10 = .ok (.iload_n 0, 1) := by decide +kernel
theorem d_M_bitsOf_11 : decode b_M_bitsOf 11 = .ok (.iload_n 2, 1) := by decide +kernel
theorem d_M_bitsOf_12 : decode b_M_bitsOf 12 = .ok (.ishr, 1) := by decide +kernel
theorem d_M_bitsOf_13 : decode b_M_bitsOf 13 = .ok (.iconst 1, 1) := by decide +kernel
theorem d_M_bitsOf_14 : decode b_M_bitsOf 14 = .ok (.iand, 1) := by decide +kernel
theorem d_M_bitsOf_15 : decode b_M_bitsOf 15 = .ok (.iadd, 1) := by decide +kernel
theorem d_M_bitsOf_16 : decode b_M_bitsOf 16 = .ok (.istore_n 1, 1) := by decide +kernel
theorem d_M_bitsOf_17 : decode b_M_bitsOf 17 = .ok (.iinc 2 1, 3) := by decide +kernel
theorem d_M_bitsOf_20 : decode b_M_bitsOf 20 = .ok (.goto (-16), 3) := by decide +kernel
theorem d_M_bitsOf_23 : decode b_M_bitsOf 23 = .ok (.iload_n 1, 1) := by decide +kernel
theorem d_M_bitsOf_24 : decode b_M_bitsOf 24 = .ok (.ireturn, 1) := by decide +kernel
theorem d_M_minor_0 : decode b_M_minor 0 = .ok (.iconst 0, 1) := by decide +kernel
theorem d_M_minor_1 : decode b_M_minor 1 = .ok (.istore_n 2, 1) := by decide +kernel
theorem d_M_minor_2 : decode b_M_minor 2 = .ok (.iconst 0, 1) := by decide +kernel
theorem d_M_minor_3 : decode b_M_minor 3 = .ok (.istore_n 3, 1) := by decide +kernel
theorem d_M_minor_4 : decode b_M_minor 4 = .ok (.iload_n 3, 1) := by decide +kernel
theorem d_M_minor_5 : decode b_M_minor 5 = .ok (.aload_n 0, 1) := by decide +kernel
theorem d_M_minor_6 : decode b_M_minor 6 = .ok (.getfield 58, 3) := by decide +kernel
theorem d_M_minor_9 : decode b_M_minor 9 = .ok (.if_icmp .ge 79, 3) := by decide +kernel
theorem d_M_minor_12 : decode b_M_minor 12 = .ok (.iload_n 1, 1) := by decide +kernel
theorem d_M_minor_13 : decode b_M_minor 13 = .ok (.iload_n 3, 1) := by decide +kernel
theorem d_M_minor_14 : decode b_M_minor 14 = .ok (.ishr, 1) := by decide +kernel
theorem d_M_minor_15 : decode b_M_minor 15 = .ok (.iconst 1, 1) := by decide +kernel
theorem d_M_minor_16 : decode b_M_minor 16 = .ok (.iand, 1) := by decide +kernel
theorem d_M_minor_17 : decode b_M_minor 17 = .ok (.ifCond .ne 6, 3) := by decide +kernel
theorem d_M_minor_20 : decode b_M_minor 20 = .ok (.goto 62, 3) := by decide +kernel
theorem d_M_minor_23 : decode b_M_minor 23 = .ok (.iconst 0, 1) := by decide +kernel
theorem d_M_minor_24 : decode b_M_minor 24 = .ok (.istore 4, 2) := by decide +kernel
theorem d_M_minor_26 : decode b_M_minor 26 = .ok (.iconst 0, 1) := by decide +kernel
theorem d_M_minor_27 : decode b_M_minor 27 = .ok (.istore 5, 2) := by decide +kernel
theorem d_M_minor_29 : decode b_M_minor 29 = .ok (.iload 5, 2) := by decide +kernel
theorem d_M_minor_31 : decode b_M_minor 31 = .ok (.aload_n 0, 1) := by decide +kernel
theorem d_M_minor_32 : decode b_M_minor 32 = .ok (.getfield 58, 3) := by decide +kernel
theorem d_M_minor_35 : decode b_M_minor 35 = .ok (.if_icmp .ge 44, 3) := by decide +kernel
theorem d_M_minor_38 : decode b_M_minor 38 = .ok (.iload_n 1, 1) := by decide +kernel
theorem d_M_minor_39 : decode b_M_minor 39 = .ok (.iload 5, 2) := by decide +kernel
theorem d_M_minor_41 : decode b_M_minor 41 = .ok (.ishr, 1) := by decide +kernel
theorem d_M_minor_42 : decode b_M_minor 42 = .ok (.iconst 1, 1) := by decide +kernel
theorem d_M_minor_43 : decode b_M_minor 43 = .ok (.iand, 1) := by decide +kernel
theorem d_M_minor_44 : decode b_M_minor 44 = .ok (.iconst 1, 1) := by decide +kernel
theorem d_M_minor_45 : decode b_M_minor 45 = .ok (.if_icmp .ne 28, 3) := by decide +kernel
theorem d_M_minor_48 : decode b_M_minor 48 = .ok (.aload_n 0, 1) := by decide +kernel
theorem d_M_minor_49 : decode b_M_minor 49 = .ok (.getfield 24, 3) := by decide +kernel
theorem d_M_minor_52 : decode b_M_minor 52 = .ok (.iconst 5, 1) := by decide +kernel
theorem d_M_minor_53 : decode b_M_minor 53 = .ok (.iload_n 2, 1) := by decide +kernel
theorem d_M_minor_54 : decode b_M_minor 54 = .ok (.imul, 1) := by decide +kernel
theorem d_M_minor_55 : decode b_M_minor 55 = .ok (.iload 4, 2) := by decide +kernel
theorem d_M_minor_57 : decode b_M_minor 57 = .ok (.iadd, 1) := by decide +kernel
theorem d_M_minor_58 : decode b_M_minor 58 = .ok (.aload_n 0, 1) := by decide +kernel
theorem d_M_minor_59 : decode b_M_minor 59 = .ok (.getfield 20, 3) := by decide +kernel
theorem d_M_minor_62 : decode b_M_minor 62 = .ok (.iconst 4, 1) := by decide +kernel
theorem d_M_minor_63 : decode b_M_minor 63 = .ok (.iload_n 3, 1) := by decide +kernel
theorem d_M_minor_64 : decode b_M_minor 64 = .ok (.imul, 1) := by decide +kernel
theorem d_M_minor_65 : decode b_M_minor 65 = .ok (.iload 5, 2) := by decide +kernel
theorem d_M_minor_67 : decode b_M_minor 67 = .ok (.iadd, 1) := by decide +kernel
theorem d_M_minor_68 : decode b_M_minor 68 = .ok (.laload, 1) := by decide +kernel
theorem d_M_minor_69 : decode b_M_minor 69 = .ok (.lastore, 1) := by decide +kernel
theorem d_M_minor_70 : decode b_M_minor 70 = .ok (.iinc 4 1, 3) := by decide +kernel
theorem d_M_minor_73 : decode b_M_minor 73 = .ok (.iinc 5 1, 3) := by decide +kernel
theorem d_M_minor_76 : decode b_M_minor 76 = .ok (.goto (-47), 3) := by decide +kernel
theorem d_M_minor_79 : decode b_M_minor 79 = .ok (.iinc 2 1, 3) := by decide +kernel
theorem d_M_minor_82 : decode b_M_minor 82 = .ok (.iinc 3 1, 3) := by decide +kernel
theorem d_M_minor_85 : decode b_M_minor 85 = .ok (.goto (-81), 3) := by decide +kernel
theorem d_M_minor_88 : decode b_M_minor 88 = .ok (.aload_n 0, 1) := by decide +kernel
theorem d_M_minor_89 : decode b_M_minor 89 = .ok (.iload_n 2, 1) := by decide +kernel
theorem d_M_minor_90 : decode b_M_minor 90 = .ok (.invokevirtual 61, 3) := by decide +kernel
theorem d_M_minor_93 : decode b_M_minor 93 = .ok (.lreturn, 1) := by decide +kernel
theorem d_M_determinantOf_0 : decode b_M_determinantOf 0 = .ok (.lconst 1, 1) := by decide +kernel
theorem d_M_determinantOf_1 : decode b_M_determinantOf 1 = .ok (.lstore_n 2, 1) := by decide +kernel
theorem d_M_determinantOf_2 : decode b_M_determinantOf 2 = .ok (.lconst 1, 1) := by decide +kernel
theorem d_M_determinantOf_3 : decode b_M_determinantOf 3 = .ok (.lstore 4, 2) := by decide +kernel
theorem d_M_determinantOf_5 : decode b_M_determinantOf 5 = .ok (.iconst 0, 1) := by decide +kernel
theorem d_M_determinantOf_6 : decode b_M_determinantOf 6 = .ok (.istore 6, 2) := by decide +kernel
theorem d_M_determinantOf_8 : decode b_M_determinantOf 8 = .ok (.iload 6, 2) := by decide +kernel
theorem d_M_determinantOf_10 : decode b_M_determinantOf 10 = .ok (.iload_n 1, 1) := by decide +kernel
theorem d_M_determinantOf_11 : decode b_M_determinantOf 11 = .ok (.if_icmp .ge 184, 3) := by decide +kernel
theorem d_M_determinantOf_14 : decode b_M_determinantOf 14 = .ok (.iload 6, 2) := by decide +kernel
theorem d_M_determinantOf_16 : decode b_M_determinantOf 16 = .ok (.istore 7, 2) := by decide +kernel
theorem d_M_determinantOf_18 : decode b_M_determinantOf 18 = .ok (.iload 7, 2) := by decide +kernel
theorem d_M_determinantOf_20 : decode b_M_determinantOf 20 = .ok (.iload_n 1, 1) := by decide +kernel
theorem d_M_determinantOf_21 : decode b_M_determinantOf 21 = .ok (.if_icmp .ge 26, 3) := by decide +kernel
theorem d_M_determinantOf_24 : decode b_M_determinantOf 24 = .ok (.aload_n 0, 1) := by decide +kernel
theorem d_M_determinantOf_25 : decode b_M_determinantOf 25 = .ok (.getfield 24, 3) := by decide +kernel
theorem d_M_determinantOf_28 : decode b_M_determinantOf 28 = .ok (.iconst 5, 1) := by decide +kernel
theorem d_M_determinantOf_29 : decode b_M_determinantOf 29 = .ok (.iload 7, 2) := by decide +kernel
theorem d_M_determinantOf_31 : decode b_M_determinantOf 31 = .ok (.imul, 1) := by decide +kernel
theorem d_M_determinantOf_32 : decode b_M_determinantOf 32 = .ok (.iload 6, 2) := by decide +kernel
theorem d_M_determinantOf_34 : decode b_M_determinantOf 34 = .ok (.iadd, 1) := by decide +kernel
theorem d_M_determinantOf_35 : decode b_M_determinantOf 35 = .ok (.laload, 1) := by decide +kernel
theorem d_M_determinantOf_36 : decode b_M_determinantOf 36 = .ok (.lconst 0, 1) := by decide +kernel
theorem d_M_determinantOf_37 : decode b_M_determinantOf 37 = .ok (.lcmp, 1) := by decide +kernel
theorem d_M_determinantOf_38 : decode b_M_determinantOf 38 = .ok (.ifCond .ne 9, 3) := by decide +kernel
theorem d_M_determinantOf_41 : decode b_M_determinantOf 41 = .ok (.iinc 7 1, 3) := by decide +kernel
theorem d_M_determinantOf_44 : decode b_M_determinantOf 44 = .ok (.goto (-26), 3) := by decide +kernel
theorem d_M_determinantOf_47 : decode b_M_determinantOf 47 = .ok (.iload 7, 2) := by decide +kernel
theorem d_M_determinantOf_49 : decode b_M_determinantOf 49 = .ok (.iload_n 1, 1) := by decide +kernel
theorem d_M_determinantOf_50 : decode b_M_determinantOf 50 = .ok (.if_icmp .ne 5, 3) := by decide +kernel
theorem d_M_determinantOf_53 : decode b_M_determinantOf 53 = .ok (.lconst 0, 1) := by decide +kernel
theorem d_M_determinantOf_54 : decode b_M_determinantOf 54 = .ok (.lreturn, 1) := by decide +kernel
theorem d_M_determinantOf_55 : decode b_M_determinantOf 55 = .ok (.iload 7, 2) := by decide +kernel
theorem d_M_determinantOf_57 : decode b_M_determinantOf 57 = .ok (.iload 6, 2) := by decide +kernel
theorem d_M_determinantOf_59 : decode b_M_determinantOf 59 = .ok (.if_icmp .le 14, 3) := by decide +kernel
theorem d_M_determinantOf_62 : decode b_M_determinantOf 62 = .ok (.aload_n 0, 1) := by decide +kernel
theorem d_M_determinantOf_63 : decode b_M_determinantOf 63 = .ok (.iload 7, 2) := by decide +kernel
theorem d_M_determinantOf_65 : decode b_M_determinantOf 65 = .ok (.iload 6, 2) := by decide +kernel
theorem d_M_determinantOf_67 : decode b_M_determinantOf 67 = .ok (.invokevirtual 65, 3) := by decide +kernel
theorem d_M_determinantOf_70 : decode b_M_determinantOf 70 = .ok (.lload_n 2, 1) := by decide +kernel
theorem d_M_determinantOf_71 : decode b_M_determinantOf 71 = .ok (.lneg, 1) := by decide +kernel
theorem d_M_determinantOf_72 : decode b_M_determinantOf 72 = .ok (.lstore_n 2, 1) := by decide +kernel
theorem d_M_determinantOf_73 : decode b_M_determinantOf 73 = .ok (.iload 6, 2) := by decide +kernel
theorem d_M_determinantOf_75 : decode b_M_determinantOf 75 = .ok (.iconst 1, 1) := by decide +kernel
theorem d_M_determinantOf_76 : decode b_M_determinantOf 76 = .ok (.iadd, 1) := by decide +kernel
theorem d_M_determinantOf_77 : decode b_M_determinantOf 77 = .ok (.istore 8, 2) := by decide +kernel
theorem d_M_determinantOf_79 : decode b_M_determinantOf 79 = .ok (.iload 8, 2) := by decide +kernel
theorem d_M_determinantOf_81 : decode b_M_determinantOf 81 = .ok (.iload_n 1, 1) := by decide +kernel
theorem d_M_determinantOf_82 : decode b_M_determinantOf 82 = .ok (.if_icmp .ge 93, 3) := by decide +kernel
theorem d_M_determinantOf_85 : decode b_M_determinantOf 85 = .ok (.iload_n 1, 1) := by decide +kernel
theorem d_M_determinantOf_86 : decode b_M_determinantOf 86 = .ok (.iconst 1, 1) := by decide +kernel
theorem d_M_determinantOf_87 : decode b_M_determinantOf 87 = .ok (.isub, 1) := by decide +kernel
theorem d_M_determinantOf_88 : decode b_M_determinantOf 88 = .ok (.istore 9, 2) := by decide +kernel
theorem d_M_determinantOf_90 : decode b_M_determinantOf 90 = .ok (.iload 9, 2) := by decide +kernel
theorem d_M_determinantOf_92 : decode b_M_determinantOf 92 = .ok (.iload 6, 2) := by decide +kernel
theorem d_M_determinantOf_94 : decode b_M_determinantOf 94 = .ok (.if_icmp .lt 75, 3) := by decide +kernel
theorem d_M_determinantOf_97 : decode b_M_determinantOf 97 = .ok (.aload_n 0, 1) := by decide +kernel
theorem d_M_determinantOf_98 : decode b_M_determinantOf 98 = .ok (.getfield 24, 3) := by decide +kernel
theorem d_M_determinantOf_101 : decode b_M_determinantOf 101 = .ok (.iconst 5, 1) := by decide +kernel
theorem d_M_determinantOf_102 : decode b_M_determinantOf 102 = .ok (.iload 8, 2) := by decide +kernel
theorem d_M_determinantOf_104 : decode b_M_determinantOf 104 = .ok (.imul, 1) := by decide +kernel
theorem d_M_determinantOf_105 : decode b_M_determinantOf 105 = .ok (.iload 9, 2) := by decide +kernel
theorem d_M_determinantOf_107 : decode b_M_determinantOf 107 = .ok (.iadd, 1) := by decide +kernel
theorem d_M_determinantOf_108 : decode b_M_determinantOf 108 = .ok (.aload_n 0, 1) := by decide +kernel
theorem d_M_determinantOf_109 : decode b_M_determinantOf 109 = .ok (.getfield 24, 3) := by decide +kernel
theorem d_M_determinantOf_112 : decode b_M_determinantOf 112 = .ok (.iconst 5, 1) := by decide +kernel
theorem d_M_determinantOf_113 : decode b_M_determinantOf 113 = .ok (.iload 8, 2) := by decide +kernel
theorem d_M_determinantOf_115 : decode b_M_determinantOf 115 = .ok (.imul, 1) := by decide +kernel
theorem d_M_determinantOf_116 : decode b_M_determinantOf 116 = .ok (.iload 9, 2) := by decide +kernel
theorem d_M_determinantOf_118 : decode b_M_determinantOf 118 = .ok (.iadd, 1) := by decide +kernel
theorem d_M_determinantOf_119 : decode b_M_determinantOf 119 = .ok (.laload, 1) := by decide +kernel
theorem d_M_determinantOf_120 : decode b_M_determinantOf 120 = .ok (.aload_n 0, 1) := by decide +kernel
theorem d_M_determinantOf_121 : decode b_M_determinantOf 121 = .ok (.getfield 24, 3) := by decide +kernel
theorem d_M_determinantOf_124 : decode b_M_determinantOf 124 = .ok (.iconst 5, 1) := by decide +kernel
theorem d_M_determinantOf_125 : decode b_M_determinantOf 125 = .ok (.iload 6, 2) := by decide +kernel
theorem d_M_determinantOf_127 : decode b_M_determinantOf 127 = .ok (.imul, 1) := by decide +kernel
theorem d_M_determinantOf_128 : decode b_M_determinantOf 128 = .ok (.iload 6, 2) := by decide +kernel
theorem d_M_determinantOf_130 : decode b_M_determinantOf 130 = .ok (.iadd, 1) := by decide +kernel
theorem d_M_determinantOf_131 : decode b_M_determinantOf 131 = .ok (.laload, 1) := by decide +kernel
theorem d_M_determinantOf_132 : decode b_M_determinantOf 132 = .ok (.lmul, 1) := by decide +kernel
theorem d_M_determinantOf_133 : decode b_M_determinantOf 133 = .ok (.aload_n 0, 1) := by decide +kernel
theorem d_M_determinantOf_134 : decode b_M_determinantOf 134 = .ok (.getfield 24, 3) := by decide +kernel
theorem d_M_determinantOf_137 : decode b_M_determinantOf 137 = .ok (.iconst 5, 1) := by decide +kernel
theorem d_M_determinantOf_138 : decode b_M_determinantOf 138 = .ok (.iload 8, 2) := by decide +kernel
theorem d_M_determinantOf_140 : decode b_M_determinantOf 140 = .ok (.imul, 1) := by decide +kernel
theorem d_M_determinantOf_141 : decode b_M_determinantOf 141 = .ok (.iload 6, 2) := by decide +kernel
theorem d_M_determinantOf_143 : decode b_M_determinantOf 143 = .ok (.iadd, 1) := by decide +kernel
theorem d_M_determinantOf_144 : decode b_M_determinantOf 144 = .ok (.laload, 1) := by decide +kernel
theorem d_M_determinantOf_145 : decode b_M_determinantOf 145 = .ok (.aload_n 0, 1) := by decide +kernel
theorem d_M_determinantOf_146 : decode b_M_determinantOf 146 = .ok (.getfield 24, 3) := by decide +kernel
theorem d_M_determinantOf_149 : decode b_M_determinantOf 149 = .ok (.iconst 5, 1) := by decide +kernel
theorem d_M_determinantOf_150 : decode b_M_determinantOf 150 = .ok (.iload 6, 2) := by decide +kernel
theorem d_M_determinantOf_152 : decode b_M_determinantOf 152 = .ok (.imul, 1) := by decide +kernel
theorem d_M_determinantOf_153 : decode b_M_determinantOf 153 = .ok (.iload 9, 2) := by decide +kernel
theorem d_M_determinantOf_155 : decode b_M_determinantOf 155 = .ok (.iadd, 1) := by decide +kernel
theorem d_M_determinantOf_156 : decode b_M_determinantOf 156 = .ok (.laload, 1) := by decide +kernel
theorem d_M_determinantOf_157 : decode b_M_determinantOf 157 = .ok (.lmul, 1) := by decide +kernel
theorem d_M_determinantOf_158 : decode b_M_determinantOf 158 = .ok (.lsub, 1) := by decide +kernel
theorem d_M_determinantOf_159 : decode b_M_determinantOf 159 = .ok (.lload 4, 2) := by decide +kernel
theorem d_M_determinantOf_161 : decode b_M_determinantOf 161 = .ok (.ldiv, 1) := by decide +kernel
theorem d_M_determinantOf_162 : decode b_M_determinantOf 162 = .ok (.lastore, 1) := by decide +kernel
theorem d_M_determinantOf_163 : decode b_M_determinantOf 163 = .ok (.iinc 9 (-1), 3) := by decide +kernel
theorem d_M_determinantOf_166 : decode b_M_determinantOf 166 = .ok (.goto (-76), 3) := by decide +kernel
theorem d_M_determinantOf_169 : decode b_M_determinantOf 169 = .ok (.iinc 8 1, 3) := by decide +kernel
theorem d_M_determinantOf_172 : decode b_M_determinantOf 172 = .ok (.goto (-93), 3) := by decide +kernel
theorem d_M_determinantOf_175 : decode b_M_determinantOf 175 = .ok (.aload_n 0, 1) := by decide +kernel
theorem d_M_determinantOf_176 : decode b_M_determinantOf 176 = .ok (.getfield 24, 3) := by decide +kernel
theorem d_M_determinantOf_179 : decode b_M_determinantOf 179 = .ok (.iconst 5, 1) := by decide +kernel
theorem d_M_determinantOf_180 : decode b_M_determinantOf 180 = .ok (.iload 6, 2) := by decide +kernel
theorem d_M_determinantOf_182 : decode b_M_determinantOf 182 = .ok (.imul, 1) := by decide +kernel
theorem d_M_determinantOf_183 : decode b_M_determinantOf 183 = .ok (.iload 6, 2) := by decide +kernel
theorem d_M_determinantOf_185 : decode b_M_determinantOf 185 = .ok (.iadd, 1) := by decide +kernel
theorem d_M_determinantOf_186 : decode b_M_determinantOf 186 = .ok (.laload, 1) := by decide +kernel
theorem d_M_determinantOf_187 : decode b_M_determinantOf 187 = .ok (.lstore 4, 2) := by decide +kernel
theorem d_M_determinantOf_189 : decode b_M_determinantOf 189 = .ok (.iinc 6 1, 3) := by decide +kernel
theorem d_M_determinantOf_192 : decode b_M_determinantOf 192 = .ok (.goto (-184), 3) := by decide +kernel
theorem d_M_determinantOf_195 : decode b_M_determinantOf 195 = .ok (.iload_n 1, 1) := by decide +kernel
theorem d_M_determinantOf_196 : decode b_M_determinantOf 196 = .ok (.ifCond .ne 7, 3) := by decide +kernel
theorem d_M_determinantOf_199 : decode b_M_determinantOf 199 = .ok (.lconst 1, 1) := by decide +kernel
theorem d_M_determinantOf_200 : decode b_M_determinantOf 200 = .ok (.goto 16, 3) := by decide +kernel
theorem d_M_determinantOf_203 : decode b_M_determinantOf 203 = .ok (.lload_n 2, 1) := by decide +kernel
theorem d_M_determinantOf_204 : decode b_M_determinantOf 204 = .ok (.aload_n 0, 1) := by decide +kernel
theorem d_M_determinantOf_205 : decode b_M_determinantOf 205 = .ok (.getfield 24, 3) := by decide +kernel
theorem d_M_determinantOf_208 : decode b_M_determinantOf 208 = .ok (.bipush 6, 2) := by decide +kernel
theorem d_M_determinantOf_210 : decode b_M_determinantOf 210 = .ok (.iload_n 1, 1) := by decide +kernel
theorem d_M_determinantOf_211 : decode b_M_determinantOf 211 = .ok (.iconst 1, 1) := by decide +kernel
theorem d_M_determinantOf_212 : decode b_M_determinantOf 212 = .ok (.isub, 1) := by decide +kernel
theorem d_M_determinantOf_213 : decode b_M_determinantOf 213 = .ok (.imul, 1) := by decide +kernel
theorem d_M_determinantOf_214 : decode b_M_determinantOf 214 = .ok (.laload, 1) := by decide +kernel
theorem d_M_determinantOf_215 : decode b_M_determinantOf 215 = .ok (.lmul, 1) := by decide +kernel
theorem d_M_determinantOf_216 : decode b_M_determinantOf 216 = .ok (.lreturn, 1) := by decide +kernel
theorem d_M_swapRows_0 : decode b_M_swapRows 0 = .ok (.iconst 0, 1) := by decide +kernel
theorem d_M_swapRows_1 : decode b_M_swapRows 1 = .ok (.istore_n 3, 1) := by decide +kernel
theorem d_M_swapRows_2 : decode b_M_swapRows 2 = .ok (.iload_n 3, 1) := by decide +kernel
theorem d_M_swapRows_3 : decode b_M_swapRows 3 = .ok (.iconst 5, 1) := by decide +kernel
theorem d_M_swapRows_4 : decode b_M_swapRows 4 = .ok (.if_icmp .ge 73, 3) := by decide +kernel
theorem d_M_swapRows_7 : decode b_M_swapRows 7 = .ok (.iconst 5, 1) := by decide +kernel
theorem d_M_swapRows_8 : decode b_M_swapRows 8 = .ok (.iload_n 1, 1) := by decide +kernel
theorem d_M_swapRows_9 : decode b_M_swapRows 9 = .ok (.imul, 1) := by decide +kernel
theorem d_M_swapRows_10 : decode b_M_swapRows 10 = .ok (.iload_n 3, 1) := by decide +kernel
theorem d_M_swapRows_11 : decode b_M_swapRows 11 = .ok (.iadd, 1) := by decide +kernel
theorem d_M_swapRows_12 : decode b_M_swapRows 12 = .ok (.bipush 20, 2) := by decide +kernel
theorem d_M_swapRows_14 : decode b_M_swapRows 14 = .ok (.if_icmp .ge 63, 3) := by decide +kernel
theorem d_M_swapRows_17 : decode b_M_swapRows 17 = .ok (.iconst 5, 1) := by decide +kernel
theorem d_M_swapRows_18 : decode b_M_swapRows 18 = .ok (.iload_n 2, 1) := by decide +kernel
theorem d_M_swapRows_19 : decode b_M_swapRows 19 = .ok (.imul, 1) := by decide +kernel
theorem d_M_swapRows_20 : decode b_M_swapRows 20 = .ok (.iload_n 3, 1) := by decide +kernel
theorem d_M_swapRows_21 : decode b_M_swapRows 21 = .ok (.iadd, 1) := by decide +kernel
theorem d_M_swapRows_22 : decode b_M_swapRows 22 = .ok (.bipush 20, 2) := by decide +kernel
theorem d_M_swapRows_24 : decode b_M_swapRows 24 = .ok (.if_icmp .ge 53, 3) := by decide +kernel
theorem d_M_swapRows_27 : decode b_M_swapRows 27 = .ok (.aload_n 0, 1) := by decide +kernel
theorem d_M_swapRows_28 : decode b_M_swapRows 28 = .ok (.getfield 24, 3) := by decide +kernel
theorem d_M_swapRows_31 : decode b_M_swapRows 31 = .ok (.iconst 5, 1) := by decide +kernel
theorem d_M_swapRows_32 : decode b_M_swapRows 32 = .ok (.iload_n 1, 1) := by decide +kernel
theorem d_M_swapRows_33 : decode b_M_swapRows 33 = .ok (.imul, 1) := by decide +kernel
theorem d_M_swapRows_34 : decode b_M_swapRows 34 = .ok (.iload_n 3, 1) := by decide +kernel
theorem d_M_swapRows_35 : decode b_M_swapRows 35 = .ok (.iadd, 1) := by decide +kernel
theorem d_M_swapRows_36 : decode b_M_swapRows 36 = .ok (.laload, 1) := by decide +kernel
theorem d_M_swapRows_37 : decode b_M_swapRows 37 = .ok (.lstore 4, 2) := by decide +kernel
theorem d_M_swapRows_39 : decode b_M_swapRows 39 = .ok (.aload_n 0, 1) := by decide +kernel
theorem d_M_swapRows_40 : decode b_M_swapRows 40 = .ok (.getfield 24, 3) := by decide +kernel
theorem d_M_swapRows_43 : decode b_M_swapRows 43 = .ok (.iconst 5, 1) := by decide +kernel
theorem d_M_swapRows_44 : decode b_M_swapRows 44 = .ok (.iload_n 1, 1) := by decide +kernel
theorem d_M_swapRows_45 : decode b_M_swapRows 45 = .ok (.imul, 1) := by decide +kernel
theorem d_M_swapRows_46 : decode b_M_swapRows 46 = .ok (.iload_n 3, 1) := by decide +kernel
theorem d_M_swapRows_47 : decode b_M_swapRows 47 = .ok (.iadd, 1) := by decide +kernel
theorem d_M_swapRows_48 : decode b_M_swapRows 48 = .ok (.aload_n 0, 1) := by decide +kernel
theorem d_M_swapRows_49 : decode b_M_swapRows 49 = .ok (.getfield 24, 3) := by decide +kernel
theorem d_M_swapRows_52 : decode b_M_swapRows 52 = .ok (.iconst 5, 1) := by decide +kernel
theorem d_M_swapRows_53 : decode b_M_swapRows 53 = .ok (.iload_n 2, 1) := by decide +kernel
theorem d_M_swapRows_54 : decode b_M_swapRows 54 = .ok (.imul, 1) := by decide +kernel
theorem d_M_swapRows_55 : decode b_M_swapRows 55 = .ok (.iload_n 3, 1) := by decide +kernel
theorem d_M_swapRows_56 : decode b_M_swapRows 56 = .ok (.iadd, 1) := by decide +kernel
theorem d_M_swapRows_57 : decode b_M_swapRows 57 = .ok (.laload, 1) := by decide +kernel
theorem d_M_swapRows_58 : decode b_M_swapRows 58 = .ok (.lastore, 1) := by decide +kernel
theorem d_M_swapRows_59 : decode b_M_swapRows 59 = .ok (.aload_n 0, 1) := by decide +kernel
theorem d_M_swapRows_60 : decode b_M_swapRows 60 = .ok (.getfield 24, 3) := by decide +kernel
theorem d_M_swapRows_63 : decode b_M_swapRows 63 = .ok (.iconst 5, 1) := by decide +kernel
theorem d_M_swapRows_64 : decode b_M_swapRows 64 = .ok (.iload_n 2, 1) := by decide +kernel
theorem d_M_swapRows_65 : decode b_M_swapRows 65 = .ok (.imul, 1) := by decide +kernel
theorem d_M_swapRows_66 : decode b_M_swapRows 66 = .ok (.iload_n 3, 1) := by decide +kernel
theorem d_M_swapRows_67 : decode b_M_swapRows 67 = .ok (.iadd, 1) := by decide +kernel
theorem d_M_swapRows_68 : decode b_M_swapRows 68 = .ok (.lload 4, 2) := by decide +kernel
theorem d_M_swapRows_70 : decode b_M_swapRows 70 = .ok (.lastore, 1) := by decide +kernel
theorem d_M_swapRows_71 : decode b_M_swapRows 71 = .ok (.iinc 3 1, 3) := by decide +kernel
theorem d_M_swapRows_74 : decode b_M_swapRows 74 = .ok (.goto (-72), 3) := by decide +kernel
theorem d_M_swapRows_77 : decode b_M_swapRows 77 = .ok (.return_, 1) := by decide +kernel
theorem d_M_kindOf_0 : decode b_M_kindOf 0 = .ok (.aload_n 0, 1) := by decide +kernel
theorem d_M_kindOf_1 : decode b_M_kindOf 1 = .ok (.getfield 85, 3) := by decide +kernel
theorem d_M_kindOf_4 : decode b_M_kindOf 4 = .ok (.aload_n 0, 1) := by decide +kernel
theorem d_M_kindOf_5 : decode b_M_kindOf 5 = .ok (.getfield 88, 3) := by decide +kernel
theorem d_M_kindOf_8 : decode b_M_kindOf 8 = .ok (.if_icmp .gt 25, 3) := by decide +kernel
theorem d_M_kindOf_11 : decode b_M_kindOf 11 = .ok (.aload_n 0, 1) := by decide +kernel
theorem d_M_kindOf_12 : decode b_M_kindOf 12 = .ok (.getfield 85, 3) := by decide +kernel
theorem d_M_kindOf_15 : decode b_M_kindOf 15 = .ok (.aload_n 0, 1) := by decide +kernel
theorem d_M_kindOf_16 : decode b_M_kindOf 16 = .ok (.getfield 88, 3) := by decide +kernel
theorem d_M_kindOf_19 : decode b_M_kindOf 19 = .ok (.if_icmp .ne 18, 3) := by decide +kernel
theorem d_M_kindOf_22 : decode b_M_kindOf 22 = .ok (.aload_n 0, 1) := by decide +kernel
theorem d_M_kindOf_23 : decode b_M_kindOf 23 = .ok (.getfield 91, 3) := by decide +kernel
theorem d_M_kindOf_26 : decode b_M_kindOf 26 = .ok (.aload_n 0, 1) := by decide +kernel
theorem d_M_kindOf_27 : decode b_M_kindOf 27 = .ok (.getfield 94, 3) := by decide +kernel
theorem d_M_kindOf_30 : decode b_M_kindOf 30 = .ok (.if_icmp .le 7, 3) := by decide +kernel
theorem d_M_kindOf_33 : decode b_M_kindOf 33 = .ok (.iconst 1, 1) := by decide +kernel
theorem d_M_kindOf_34 : decode b_M_kindOf 34 = .ok (.goto 4, 3) := by decide +kernel
theorem d_M_kindOf_37 : decode b_M_kindOf 37 = .ok (.iconst 0, 1) := by decide +kernel
theorem d_M_kindOf_38 : decode b_M_kindOf 38 = .ok (.istore_n 2, 1) := by decide +kernel
theorem d_M_kindOf_39 : decode b_M_kindOf 39 = .ok (.iload_n 2, 1) := by decide +kernel
theorem d_M_kindOf_40 : decode b_M_kindOf 40 = .ok (.ifCond .eq 35, 3) := by decide +kernel
theorem d_M_kindOf_43 : decode b_M_kindOf 43 = .ok (.sipush 1000, 3) := by decide +kernel
theorem d_M_kindOf_46 : decode b_M_kindOf 46 = .ok (.aload_n 0, 1) := by decide +kernel
theorem d_M_kindOf_47 : decode b_M_kindOf 47 = .ok (.getfield 85, 3) := by decide +kernel
theorem d_M_kindOf_50 : decode b_M_kindOf 50 = .ok (.imul, 1) := by decide +kernel
theorem d_M_kindOf_51 : decode b_M_kindOf 51 = .ok (.bipush 100, 2) := by decide +kernel
theorem d_M_kindOf_53 : decode b_M_kindOf 53 = .ok (.aload_n 0, 1) := by decide +kernel
theorem d_M_kindOf_54 : decode b_M_kindOf 54 = .ok (.getfield 88, 3) := by decide +kernel
theorem d_M_kindOf_57 : decode b_M_kindOf 57 = .ok (.imul, 1) := by decide +kernel
theorem d_M_kindOf_58 : decode b_M_kindOf 58 = .ok (.iadd, 1) := by decide +kernel
theorem d_M_kindOf_59 : decode b_M_kindOf 59 = .ok (.bipush 10, 2) := by decide +kernel
theorem d_M_kindOf_61 : decode b_M_kindOf 61 = .ok (.aload_n 0, 1) := by decide +kernel
theorem d_M_kindOf_62 : decode b_M_kindOf 62 = .ok (.getfield 91, 3) := by decide +kernel
theorem d_M_kindOf_65 : decode b_M_kindOf 65 = .ok (.imul, 1) := by decide +kernel
theorem d_M_kindOf_66 : decode b_M_kindOf 66 = .ok (.iadd, 1) := by decide +kernel
theorem d_M_kindOf_67 : decode b_M_kindOf 67 = .ok (.aload_n 0, 1) := by decide +kernel
theorem d_M_kindOf_68 : decode b_M_kindOf 68 = .ok (.getfield 94, 3) := by decide +kernel
theorem d_M_kindOf_71 : decode b_M_kindOf 71 = .ok (.iadd, 1) := by decide +kernel
theorem d_M_kindOf_72 : decode b_M_kindOf 72 = .ok (.goto 32, 3) := by decide +kernel
theorem d_M_kindOf_75 : decode b_M_kindOf 75 = .ok (.sipush 1000, 3) := by decide +kernel
theorem d_M_kindOf_78 : decode b_M_kindOf 78 = .ok (.aload_n 0, 1) := by decide +kernel
theorem d_M_kindOf_79 : decode b_M_kindOf 79 = .ok (.getfield 88, 3) := by decide +kernel
theorem d_M_kindOf_82 : decode b_M_kindOf 82 = .ok (.imul, 1) := by decide +kernel
theorem d_M_kindOf_83 : decode b_M_kindOf 83 = .ok (.bipush 100, 2) := by decide +kernel
theorem d_M_kindOf_85 : decode b_M_kindOf 85 = .ok (.aload_n 0, 1) := by decide +kernel
theorem d_M_kindOf_86 : decode b_M_kindOf 86 = .ok (.getfield 85, 3) := by decide +kernel
theorem d_M_kindOf_89 : decode b_M_kindOf 89 = .ok (.imul, 1) := by decide +kernel
theorem d_M_kindOf_90 : decode b_M_kindOf 90 = .ok (.iadd, 1) := by decide +kernel
theorem d_M_kindOf_91 : decode b_M_kindOf 91 = .ok (.bipush 10, 2) := by decide +kernel
theorem d_M_kindOf_93 : decode b_M_kindOf 93 = .ok (.aload_n 0, 1) := by decide +kernel
theorem d_M_kindOf_94 : decode b_M_kindOf 94 = .ok (.getfield 94, 3) := by decide +kernel
theorem d_M_kindOf_97 : decode b_M_kindOf 97 = .ok (.imul, 1) := by decide +kernel
theorem d_M_kindOf_98 : decode b_M_kindOf 98 = .ok (.iadd, 1) := by decide +kernel
theorem d_M_kindOf_99 : decode b_M_kindOf 99 = .ok (.aload_n 0, 1) := by decide +kernel
theorem d_M_kindOf_100 : decode b_M_kindOf 100 = .ok (.getfield 91, 3) := by decide +kernel
theorem d_M_kindOf_103 : decode b_M_kindOf 103 = .ok (.iadd, 1) := by decide +kernel
theorem d_M_kindOf_104 : decode b_M_kindOf 104 = .ok (.istore_n 3, 1) := by decide +kernel
theorem d_M_kindOf_105 : decode b_M_kindOf 105 = .ok (.iconst (-1), 1) := by decide +kernel
theorem d_M_kindOf_106 : decode b_M_kindOf 106 = .ok (.istore 4, 2) := by decide +kernel
theorem d_M_kindOf_108 : decode b_M_kindOf 108 = .ok (.iconst 0, 1) := by decide +kernel
theorem d_M_kindOf_109 : decode b_M_kindOf 109 = .ok (.istore 5, 2) := by decide +kernel
theorem d_M_kindOf_111 : decode b_M_kindOf 111 = .ok (.iload 5, 2) := by decide +kernel
theorem d_M_kindOf_113 : decode b_M_kindOf 113 = .ok (.iload_n 1, 1) := by decide +kernel
theorem d_M_kindOf_114 : decode b_M_kindOf 114 = .ok (.ifCond .eq 11, 3) := by decide +kernel
theorem d_M_kindOf_117 : decode b_M_kindOf 117 = .ok (.aload_n 0, 1) := by decide +kernel
theorem d_M_kindOf_118 : decode b_M_kindOf 118 = .ok (.getfield 27, 3) := by decide +kernel
theorem d_M_kindOf_121 : decode b_M_kindOf 121 = .ok (.arraylength, 1) := by decide +kernel
theorem d_M_kindOf_122 : decode b_M_kindOf 122 = .ok (.goto 8, 3) := by decide +kernel
theorem d_M_kindOf_125 : decode b_M_kindOf 125 = .ok (.aload_n 0, 1) := by decide +kernel
theorem d_M_kindOf_126 : decode b_M_kindOf 126 = .ok (.getfield 30, 3) := by decide +kernel
theorem d_M_kindOf_129 : decode b_M_kindOf 129 = .ok (.arraylength, 1) := by decide +kernel
theorem d_M_kindOf_130 : decode b_M_kindOf 130 = .ok (.if_icmp .ge 65, 3) := by decide +kernel
theorem d_M_kindOf_133 : decode b_M_kindOf 133 = .ok (.iload_n 1, 1) := by decide +kernel
theorem d_M_kindOf_134 : decode b_M_kindOf 134 = .ok (.ifCond .eq 13, 3) := by decide +kernel
theorem d_M_kindOf_137 : decode b_M_kindOf 137 = .ok (.aload_n 0, 1) := by decide +kernel
theorem d_M_kindOf_138 : decode b_M_kindOf 138 = .ok (.getfield 27, 3) := by decide +kernel
theorem d_M_kindOf_141 : decode b_M_kindOf 141 = .ok (.iload 5, 2) := by decide +kernel
theorem d_M_kindOf_143 : decode b_M_kindOf 143 = .ok (.iaload, 1) := by decide +kernel
theorem d_M_kindOf_144 : decode b_M_kindOf 144 = .ok (.goto 10, 3) := by decide +kernel
theorem d_M_kindOf_147 : decode b_M_kindOf 147 = .ok (.aload_n 0, 1) := by decide +kernel
theorem d_M_kindOf_148 : decode b_M_kindOf 148 = .ok (.getfield 30, 3) := by decide +kernel
theorem d_M_kindOf_151 : decode b_M_kindOf 151 = .ok (.iload 5, 2) := by decide +kernel
theorem d_M_kindOf_153 : decode b_M_kindOf 153 = .ok (.iaload, 1) := by decide +kernel
theorem d_M_kindOf_154 : decode b_M_kindOf 154 = .ok (.istore 6, 2) := by decide +kernel
theorem d_M_kindOf_156 : decode b_M_kindOf 156 = .ok (.iload 6, 2) := by decide +kernel
theorem d_M_kindOf_158 : decode b_M_kindOf 158 = .ok (.iload_n 3, 1) := by decide +kernel
theorem d_M_kindOf_159 : decode b_M_kindOf 159 = .ok (.if_icmp .ne 30, 3) := by decide +kernel
theorem d_M_kindOf_162 : decode b_M_kindOf 162 = .ok (.iload_n 1, 1) := by decide +kernel
theorem d_M_kindOf_163 : decode b_M_kindOf 163 = .ok (.ifCond .eq 15, 3) := by decide +kernel
theorem d_M_kindOf_166 : decode b_M_kindOf 166 = .ok (.aload_n 0, 1) := by decide +kernel
theorem d_M_kindOf_167 : decode b_M_kindOf 167 = .ok (.getfield 27, 3) := by decide +kernel
theorem d_M_kindOf_170 : decode b_M_kindOf 170 = .ok (.iload 5, 2) := by decide +kernel
theorem d_M_kindOf_172 : decode b_M_kindOf 172 = .ok (.iconst 1, 1) := by decide +kernel
theorem d_M_kindOf_173 : decode b_M_kindOf 173 = .ok (.iadd, 1) := by decide +kernel
theorem d_M_kindOf_174 : decode b_M_kindOf 174 = .ok (.iaload, 1) := by decide +kernel
theorem d_M_kindOf_175 : decode b_M_kindOf 175 = .ok (.goto 12, 3) := by decide +kernel
theorem d_M_kindOf_178 : decode b_M_kindOf 178 = .ok (.aload_n 0, 1) := by decide +kernel
theorem d_M_kindOf_179 : decode b_M_kindOf 179 = .ok (.getfield 30, 3) := by decide +kernel
theorem d_M_kindOf_182 : decode b_M_kindOf 182 = .ok (.iload 5, 2) := by decide +kernel
theorem d_M_kindOf_184 : decode b_M_kindOf 184 = .ok (.iconst 1, 1) := by decide +kernel
theorem d_M_kindOf_185 : decode b_M_kindOf 185 = .ok (.iadd, 1) := by decide +kernel
theorem d_M_kindOf_186 : decode b_M_kindOf 186 = .ok (.iaload, 1) := by decide +kernel
theorem d_M_kindOf_187 : decode b_M_kindOf 187 = .ok (.istore 4, 2) := by decide +kernel
theorem d_M_kindOf_189 : decode b_M_kindOf 189 = .ok (.iinc 5 2, 3) := by decide +kernel
theorem d_M_kindOf_192 : decode b_M_kindOf 192 = .ok (.goto (-81), 3) := by decide +kernel
theorem d_M_kindOf_195 : decode b_M_kindOf 195 = .ok (.iload 4, 2) := by decide +kernel
theorem d_M_kindOf_197 : decode b_M_kindOf 197 = .ok (.ireturn, 1) := by decide +kernel
theorem d_M_signs_0 : decode b_M_signs 0 = .ok (.aload_n 0, 1) := by decide +kernel
theorem d_M_signs_1 : decode b_M_signs 1 = .ok (.iconst 0, 1) := by decide +kernel
theorem d_M_signs_2 : decode b_M_signs 2 = .ok (.putfield 45, 3) := by decide +kernel
theorem d_M_signs_5 : decode b_M_signs 5 = .ok (.aload_n 0, 1) := by decide +kernel
theorem d_M_signs_6 : decode b_M_signs 6 = .ok (.invokevirtual 104, 3) := by decide +kernel
theorem d_M_signs_9 : decode b_M_signs 9 = .ok (.iload_n 1, 1) := by decide +kernel
theorem d_M_signs_10 : decode b_M_signs 10 = .ok (.ifCond .ne 10, 3) := by decide +kernel
theorem d_M_signs_13 : decode b_M_signs 13 = .ok (.aload_n 0, 1) := by decide +kernel
theorem d_M_signs_14 : decode b_M_signs 14 = .ok (.getfield 88, 3) := by decide +kernel
theorem d_M_signs_17 : decode b_M_signs 17 = .ok (.goto 41, 3) := by decide +kernel
theorem d_M_signs_20 : decode b_M_signs 20 = .ok (.iload_n 1, 1) := by decide +kernel
theorem d_M_signs_21 : decode b_M_signs 21 = .ok (.iconst 1, 1) := by decide +kernel
theorem d_M_signs_22 : decode b_M_signs 22 = .ok (.if_icmp .ne 10, 3) := by decide +kernel
theorem d_M_signs_25 : decode b_M_signs 25 = .ok (.aload_n 0, 1) := by decide +kernel
theorem d_M_signs_26 : decode b_M_signs 26 = .ok (.getfield 85, 3) := by decide +kernel
theorem d_M_signs_29 : decode b_M_signs 29 = .ok (.goto 29, 3) := by decide +kernel
theorem d_M_signs_32 : decode b_M_signs 32 = .ok (.iload_n 1, 1) := by decide +kernel
theorem d_M_signs_33 : decode b_M_signs 33 = .ok (.iconst 2, 1) := by decide +kernel
theorem d_M_signs_34 : decode b_M_signs 34 = .ok (.if_icmp .ne 10, 3) := by decide +kernel
theorem d_M_signs_37 : decode b_M_signs 37 = .ok (.aload_n 0, 1) := by decide +kernel
theorem d_M_signs_38 : decode b_M_signs 38 = .ok (.getfield 94, 3) := by decide +kernel
theorem d_M_signs_41 : decode b_M_signs 41 = .ok (.goto 17, 3) := by decide +kernel
theorem d_M_signs_44 : decode b_M_signs 44 = .ok (.iload_n 1, 1) := by decide +kernel
theorem d_M_signs_45 : decode b_M_signs 45 = .ok (.iconst 3, 1) := by decide +kernel
theorem d_M_signs_46 : decode b_M_signs 46 = .ok (.if_icmp .ne 10, 3) := by decide +kernel
theorem d_M_signs_49 : decode b_M_signs 49 = .ok (.aload_n 0, 1) := by decide +kernel
theorem d_M_signs_50 : decode b_M_signs 50 = .ok (.getfield 91, 3) := by decide +kernel
theorem d_M_signs_53 : decode b_M_signs 53 = .ok (.goto 5, 3) := by decide +kernel
theorem d_M_signs_56 : decode b_M_signs 56 = .ok (.bipush (-2), 2) := by decide +kernel
theorem d_M_signs_58 : decode b_M_signs 58 = .ok (.ireturn, 1) := by decide +kernel
theorem d_M_determinant_0 : decode b_M_determinant 0 = .ok (.aload_n 0, 1) := by decide +kernel
theorem d_M_determinant_1 : decode b_M_determinant 1 = .ok (.iconst 0, 1) := by decide +kernel
theorem d_M_determinant_2 : decode b_M_determinant 2 = .ok (.putfield 45, 3) := by decide +kernel
theorem d_M_determinant_5 : decode b_M_determinant 5 = .ok (.iload_n 1, 1) := by decide +kernel
theorem d_M_determinant_6 : decode b_M_determinant 6 = .ok (.i2l, 1) := by decide +kernel
theorem d_M_determinant_7 : decode b_M_determinant 7 = .ok (.iconst 0, 1) := by decide +kernel
theorem d_M_determinant_8 : decode b_M_determinant 8 = .ok (.iconst 3, 1) := by decide +kernel
theorem d_M_determinant_9 : decode b_M_determinant 9 = .ok (.invokestatic 52, 3) := by decide +kernel
theorem d_M_determinant_12 : decode b_M_determinant 12 = .ok (.ifCond .ne 7, 3) := by decide +kernel
theorem d_M_determinant_15 : decode b_M_determinant 15 = .ok (.ldc2_w 56, 3) := by decide +kernel
theorem d_M_determinant_18 : decode b_M_determinant 18 = .ok (.lreturn, 1) := by decide +kernel
theorem d_M_determinant_19 : decode b_M_determinant 19 = .ok (.aload_n 0, 1) := by decide +kernel
theorem d_M_determinant_20 : decode b_M_determinant 20 = .ok (.iload_n 1, 1) := by decide +kernel
theorem d_M_determinant_21 : decode b_M_determinant 21 = .ok (.iconst 1, 1) := by decide +kernel
theorem d_M_determinant_22 : decode b_M_determinant 22 = .ok (.if_icmp .ne 7, 3) := by decide +kernel
theorem d_M_determinant_25 : decode b_M_determinant 25 = .ok (.iconst 1, 1) := by decide +kernel
theorem d_M_determinant_26 : decode b_M_determinant 26 = .ok (.goto 4, 3) := by decide +kernel
theorem d_M_determinant_29 : decode b_M_determinant 29 = .ok (.iconst 0, 1) := by decide +kernel
theorem d_M_determinant_30 : decode b_M_determinant 30 = .ok (.invokevirtual 97, 3) := by decide +kernel
theorem d_M_determinant_33 : decode b_M_determinant 33 = .ok (.iload_n 1, 1) := by decide +kernel
theorem d_M_determinant_34 : decode b_M_determinant 34 = .ok (.iconst 2, 1) := by decide +kernel
theorem d_M_determinant_35 : decode b_M_determinant 35 = .ok (.if_icmp .ge 14, 3) := by decide +kernel
theorem d_M_determinant_38 : decode b_M_determinant 38 = .ok (.aload_n 0, 1) := by decide +kernel
theorem d_M_determinant_39 : decode b_M_determinant 39 = .ok (.aload_n 0, 1) := by decide +kernel
theorem d_M_determinant_40 : decode b_M_determinant 40 = .ok (.getfield 58, 3) := by decide +kernel
theorem d_M_determinant_43 : decode b_M_determinant 43 = .ok (.invokevirtual 82, 3) := by decide +kernel
theorem d_M_determinant_46 : decode b_M_determinant 46 = .ok (.goto 21, 3) := by decide +kernel
theorem d_M_determinant_49 : decode b_M_determinant 49 = .ok (.iload_n 1, 1) := by decide +kernel
theorem d_M_determinant_50 : decode b_M_determinant 50 = .ok (.iconst 2, 1) := by decide +kernel
theorem d_M_determinant_51 : decode b_M_determinant 51 = .ok (.if_icmp .ne 11, 3) := by decide +kernel
theorem d_M_determinant_54 : decode b_M_determinant 54 = .ok (.aload_n 0, 1) := by decide +kernel
theorem d_M_determinant_55 : decode b_M_determinant 55 = .ok (.iconst 1, 1) := by decide +kernel
theorem d_M_determinant_56 : decode b_M_determinant 56 = .ok (.invokevirtual 82, 3) := by decide +kernel
theorem d_M_determinant_59 : decode b_M_determinant 59 = .ok (.goto 8, 3) := by decide +kernel
theorem d_M_determinant_62 : decode b_M_determinant 62 = .ok (.aload_n 0, 1) := by decide +kernel
theorem d_M_determinant_63 : decode b_M_determinant 63 = .ok (.iconst 2, 1) := by decide +kernel
theorem d_M_determinant_64 : decode b_M_determinant 64 = .ok (.invokevirtual 82, 3) := by decide +kernel
theorem d_M_determinant_67 : decode b_M_determinant 67 = .ok (.lreturn, 1) := by decide +kernel
theorem d_M_middles_0 : decode b_M_middles 0 = .ok (.aload_n 0, 1) := by decide +kernel
theorem d_M_middles_1 : decode b_M_middles 1 = .ok (.iconst 0, 1) := by decide +kernel
theorem d_M_middles_2 : decode b_M_middles 2 = .ok (.putfield 45, 3) := by decide +kernel
theorem d_M_middles_5 : decode b_M_middles 5 = .ok (.aload_n 0, 1) := by decide +kernel
theorem d_M_middles_6 : decode b_M_middles 6 = .ok (.iconst 0, 1) := by decide +kernel
theorem d_M_middles_7 : decode b_M_middles 7 = .ok (.invokevirtual 115, 3) := by decide +kernel
theorem d_M_middles_10 : decode b_M_middles 10 = .ok (.istore_n 1, 1) := by decide +kernel
theorem d_M_middles_11 : decode b_M_middles 11 = .ok (.iload_n 1, 1) := by decide +kernel
theorem d_M_middles_12 : decode b_M_middles 12 = .ok (.aload_n 0, 1) := by decide +kernel
theorem d_M_middles_13 : decode b_M_middles 13 = .ok (.iconst 1, 1) := by decide +kernel
theorem d_M_middles_14 : decode b_M_middles 14 = .ok (.invokevirtual 115, 3) := by decide +kernel
theorem d_M_middles_17 : decode b_M_middles 17 = .ok (.if_icmp .ne 12, 3) := by decide +kernel
theorem d_M_middles_20 : decode b_M_middles 20 = .ok (.aload_n 0, 1) := by decide +kernel
theorem d_M_middles_21 : decode b_M_middles 21 = .ok (.getfield 7, 3) := by decide +kernel
theorem d_M_middles_24 : decode b_M_middles 24 = .ok (.iload_n 1, 1) := by decide +kernel
theorem d_M_middles_25 : decode b_M_middles 25 = .ok (.isub, 1) := by decide +kernel
theorem d_M_middles_26 : decode b_M_middles 26 = .ok (.goto 5, 3) := by decide +kernel
theorem d_M_middles_29 : decode b_M_middles 29 = .ok (.bipush (-3), 2) := by decide +kernel
theorem d_M_middles_31 : decode b_M_middles 31 = .ok (.ireturn, 1) := by decide +kernel
theorem d_M_rank_0 : decode b_M_rank 0 = .ok (.iload_n 1, 1) := by decide +kernel
theorem d_M_rank_1 : decode b_M_rank 1 = .ok (.ifCond .eq 12, 3) := by decide +kernel
theorem d_M_rank_4 : decode b_M_rank 4 = .ok (.aload_n 0, 1) := by decide +kernel
theorem d_M_rank_5 : decode b_M_rank 5 = .ok (.getfield 7, 3) := by decide +kernel
theorem d_M_rank_8 : decode b_M_rank 8 = .ok (.iconst 1, 1) := by decide +kernel
theorem d_M_rank_9 : decode b_M_rank 9 = .ok (.iadd, 1) := by decide +kernel
theorem d_M_rank_10 : decode b_M_rank 10 = .ok (.goto 7, 3) := by decide +kernel
theorem d_M_rank_13 : decode b_M_rank 13 = .ok (.aload_n 0, 1) := by decide +kernel
theorem d_M_rank_14 : decode b_M_rank 14 = .ok (.getfield 7, 3) := by decide +kernel
theorem d_M_rank_17 : decode b_M_rank 17 = .ok (.istore_n 2, 1) := by decide +kernel
theorem d_M_rank_18 : decode b_M_rank 18 = .ok (.iconst 0, 1) := by decide +kernel
theorem d_M_rank_19 : decode b_M_rank 19 = .ok (.istore_n 3, 1) := by decide +kernel
theorem d_M_rank_20 : decode b_M_rank 20 = .ok (.iload_n 3, 1) := by decide +kernel
theorem d_M_rank_21 : decode b_M_rank 21 = .ok (.aload_n 0, 1) := by decide +kernel
theorem d_M_rank_22 : decode b_M_rank 22 = .ok (.getfield 7, 3) := by decide +kernel
theorem d_M_rank_25 : decode b_M_rank 25 = .ok (.if_icmp .ge 74, 3) := by decide +kernel
theorem d_M_rank_28 : decode b_M_rank 28 = .ok (.iconst 0, 1) := by decide +kernel
theorem d_M_rank_29 : decode b_M_rank 29 = .ok (.istore 4, 2) := by decide +kernel
theorem d_M_rank_31 : decode b_M_rank 31 = .ok (.iload 4, 2) := by decide +kernel
theorem d_M_rank_33 : decode b_M_rank 33 = .ok (.iload_n 2, 1) := by decide +kernel
theorem d_M_rank_34 : decode b_M_rank 34 = .ok (.if_icmp .ge 59, 3) := by decide +kernel
theorem d_M_rank_37 : decode b_M_rank 37 = .ok (.aload_n 0, 1) := by decide +kernel
theorem d_M_rank_38 : decode b_M_rank 38 = .ok (.getfield 24, 3) := by decide +kernel
theorem d_M_rank_41 : decode b_M_rank 41 = .ok (.iconst 5, 1) := by decide +kernel
theorem d_M_rank_42 : decode b_M_rank 42 = .ok (.iload_n 3, 1) := by decide +kernel
theorem d_M_rank_43 : decode b_M_rank 43 = .ok (.imul, 1) := by decide +kernel
theorem d_M_rank_44 : decode b_M_rank 44 = .ok (.iload 4, 2) := by decide +kernel
theorem d_M_rank_46 : decode b_M_rank 46 = .ok (.iadd, 1) := by decide +kernel
theorem d_M_rank_47 : decode b_M_rank 47 = .ok (.iload 4, 2) := by decide +kernel
theorem d_M_rank_49 : decode b_M_rank 49 = .ok (.aload_n 0, 1) := by decide +kernel
theorem d_M_rank_50 : decode b_M_rank 50 = .ok (.getfield 7, 3) := by decide +kernel
theorem d_M_rank_53 : decode b_M_rank 53 = .ok (.if_icmp .ge 22, 3) := by decide +kernel
theorem d_M_rank_56 : decode b_M_rank 56 = .ok (.aload_n 0, 1) := by decide +kernel
theorem d_M_rank_57 : decode b_M_rank 57 = .ok (.getfield 13, 3) := by decide +kernel
theorem d_M_rank_60 : decode b_M_rank 60 = .ok (.iconst 4, 1) := by decide +kernel
theorem d_M_rank_61 : decode b_M_rank 61 = .ok (.iload_n 3, 1) := by decide +kernel
theorem d_M_rank_62 : decode b_M_rank 62 = .ok (.iconst 1, 1) := by decide +kernel
theorem d_M_rank_63 : decode b_M_rank 63 = .ok (.iadd, 1) := by decide +kernel
theorem d_M_rank_64 : decode b_M_rank 64 = .ok (.imul, 1) := by decide +kernel
theorem d_M_rank_65 : decode b_M_rank 65 = .ok (.iload 4, 2) := by decide +kernel
theorem d_M_rank_67 : decode b_M_rank 67 = .ok (.iadd, 1) := by decide +kernel
theorem d_M_rank_68 : decode b_M_rank 68 = .ok (.iconst 1, 1) := by decide +kernel
theorem d_M_rank_69 : decode b_M_rank 69 = .ok (.iadd, 1) := by decide +kernel
theorem d_M_rank_70 : decode b_M_rank 70 = .ok (.iaload, 1) := by decide +kernel
theorem d_M_rank_71 : decode b_M_rank 71 = .ok (.i2l, 1) := by decide +kernel
theorem d_M_rank_72 : decode b_M_rank 72 = .ok (.goto 14, 3) := by decide +kernel
theorem d_M_rank_75 : decode b_M_rank 75 = .ok (.aload_n 0, 1) := by decide +kernel
theorem d_M_rank_76 : decode b_M_rank 76 = .ok (.getfield 13, 3) := by decide +kernel
theorem d_M_rank_79 : decode b_M_rank 79 = .ok (.iconst 4, 1) := by decide +kernel
theorem d_M_rank_80 : decode b_M_rank 80 = .ok (.iload_n 3, 1) := by decide +kernel
theorem d_M_rank_81 : decode b_M_rank 81 = .ok (.iconst 1, 1) := by decide +kernel
theorem d_M_rank_82 : decode b_M_rank 82 = .ok (.iadd, 1) := by decide +kernel
theorem d_M_rank_83 : decode b_M_rank 83 = .ok (.imul, 1) := by decide +kernel
theorem d_M_rank_84 : decode b_M_rank 84 = .ok (.iaload, 1) := by decide +kernel
theorem d_M_rank_85 : decode b_M_rank 85 = .ok (.i2l, 1) := by decide +kernel
theorem d_M_rank_86 : decode b_M_rank 86 = .ok (.lastore, 1) := by decide +kernel
theorem d_M_rank_87 : decode b_M_rank 87 = .ok (.iinc 4 1, 3) := by decide +kernel
theorem d_M_rank_90 : decode b_M_rank 90 = .ok (.goto (-59), 3) := by decide +kernel
theorem d_M_rank_93 : decode b_M_rank 93 = .ok (.iinc 3 1, 3) := by decide +kernel
theorem d_M_rank_96 : decode b_M_rank 96 = .ok (.goto (-76), 3) := by decide +kernel
theorem d_M_rank_99 : decode b_M_rank 99 = .ok (.iconst 0, 1) := by decide +kernel
theorem d_M_rank_100 : decode b_M_rank 100 = .ok (.istore_n 3, 1) := by decide +kernel
theorem d_M_rank_101 : decode b_M_rank 101 = .ok (.iconst 0, 1) := by decide +kernel
theorem d_M_rank_102 : decode b_M_rank 102 = .ok (.istore 4, 2) := by decide +kernel
theorem d_M_rank_104 : decode b_M_rank 104 = .ok (.iload 4, 2) := by decide +kernel
theorem d_M_rank_106 : decode b_M_rank 106 = .ok (.iload_n 2, 1) := by decide +kernel
theorem d_M_rank_107 : decode b_M_rank 107 = .ok (.if_icmp .ge 174, 3) := by decide +kernel
theorem d_M_rank_110 : decode b_M_rank 110 = .ok (.iload_n 3, 1) := by decide +kernel
theorem d_M_rank_111 : decode b_M_rank 111 = .ok (.aload_n 0, 1) := by decide +kernel
theorem d_M_rank_112 : decode b_M_rank 112 = .ok (.getfield 7, 3) := by decide +kernel
theorem d_M_rank_115 : decode b_M_rank 115 = .ok (.if_icmp .ge 166, 3) := by decide +kernel
theorem d_M_rank_118 : decode b_M_rank 118 = .ok (.iload_n 3, 1) := by decide +kernel
theorem d_M_rank_119 : decode b_M_rank 119 = .ok (.istore 5, 2) := by decide +kernel
theorem d_M_rank_121 : decode b_M_rank 121 = .ok (.iload 5, 2) := by decide +kernel
theorem d_M_rank_123 : decode b_M_rank 123 = .ok (.aload_n 0, 1) := by decide +kernel
theorem d_M_rank_124 : decode b_M_rank 124 = .ok (.getfield 7, 3) := by decide +kernel
theorem d_M_rank_127 : decode b_M_rank 127 = .ok (.if_icmp .ge 26, 3) := by decide +kernel
theorem d_M_rank_130 : decode b_M_rank 130 = .ok (.aload_n 0, 1) := by decide +kernel
theorem d_M_rank_131 : decode b_M_rank 131 = .ok (.getfield 24, 3) := by decide +kernel
theorem d_M_rank_134 : decode b_M_rank 134 = .ok (.iconst 5, 1) := by decide +kernel
theorem d_M_rank_135 : decode b_M_rank 135 = .ok (.iload 5, 2) := by decide +kernel
theorem d_M_rank_137 : decode b_M_rank 137 = .ok (.imul, 1) := by decide +kernel
theorem d_M_rank_138 : decode b_M_rank 138 = .ok (.iload 4, 2) := by decide +kernel
theorem d_M_rank_140 : decode b_M_rank 140 = .ok (.iadd, 1) := by decide +kernel
theorem d_M_rank_141 : decode b_M_rank 141 = .ok (.laload, 1) := by decide +kernel
theorem d_M_rank_142 : decode b_M_rank 142 = .ok (.lconst 0, 1) := by decide +kernel
theorem d_M_rank_143 : decode b_M_rank 143 = .ok (.lcmp, 1) := by decide +kernel
theorem d_M_rank_144 : decode b_M_rank 144 = .ok (.ifCond .ne 9, 3) := by decide +kernel
theorem d_M_rank_147 : decode b_M_rank 147 = .ok (.iinc 5 1, 3) := by decide +kernel
theorem d_M_rank_150 : decode b_M_rank 150 = .ok (.goto (-29), 3) := by decide +kernel
theorem d_M_rank_153 : decode b_M_rank 153 = .ok (.iload 5, 2) := by decide +kernel
theorem d_M_rank_155 : decode b_M_rank 155 = .ok (.aload_n 0, 1) := by decide +kernel
theorem d_M_rank_156 : decode b_M_rank 156 = .ok (.getfield 7, 3) := by decide +kernel
theorem d_M_rank_159 : decode b_M_rank 159 = .ok (.if_icmp .ne 6, 3) := by decide +kernel
theorem d_M_rank_162 : decode b_M_rank 162 = .ok (.goto 113, 3) := by decide +kernel
theorem d_M_rank_165 : decode b_M_rank 165 = .ok (.aload_n 0, 1) := by decide +kernel
theorem d_M_rank_166 : decode b_M_rank 166 = .ok (.iload 5, 2) := by decide +kernel
theorem d_M_rank_168 : decode b_M_rank 168 = .ok (.iload_n 3, 1) := by decide +kernel
theorem d_M_rank_169 : decode b_M_rank 169 = .ok (.invokevirtual 65, 3) := by decide +kernel
theorem d_M_rank_172 : decode b_M_rank 172 = .ok (.iload_n 3, 1) := by decide +kernel
theorem d_M_rank_173 : decode b_M_rank 173 = .ok (.iconst 1, 1) := by decide +kernel
theorem d_M_rank_174 : decode b_M_rank 174 = .ok (.iadd, 1) := by decide +kernel
theorem d_M_rank_175 : decode b_M_rank 175 = .ok (.istore 6, 2) := by decide +kernel
theorem d_M_rank_177 : decode b_M_rank 177 = .ok (.iload 6, 2) := by decide +kernel
theorem d_M_rank_179 : decode b_M_rank 179 = .ok (.aload_n 0, 1) := by decide +kernel
theorem d_M_rank_180 : decode b_M_rank 180 = .ok (.getfield 7, 3) := by decide +kernel
theorem d_M_rank_183 : decode b_M_rank 183 = .ok (.if_icmp .ge 89, 3) := by decide +kernel
theorem d_M_rank_186 : decode b_M_rank 186 = .ok (.aload_n 0, 1) := by decide +kernel
theorem d_M_rank_187 : decode b_M_rank 187 = .ok (.getfield 24, 3) := by decide +kernel
theorem d_M_rank_190 : decode b_M_rank 190 = .ok (.iconst 5, 1) := by decide +kernel
theorem d_M_rank_191 : decode b_M_rank 191 = .ok (.iload 6, 2) := by decide +kernel
theorem d_M_rank_193 : decode b_M_rank 193 = .ok (.imul, 1) := by decide +kernel
theorem d_M_rank_194 : decode b_M_rank 194 = .ok (.iload 4, 2) := by decide +kernel
theorem d_M_rank_196 : decode b_M_rank 196 = .ok (.iadd, 1) := by decide +kernel
theorem d_M_rank_197 : decode b_M_rank 197 = .ok (.laload, 1) := by decide +kernel
theorem d_M_rank_198 : decode b_M_rank 198 = .ok (.lstore 7, 2) := by decide +kernel
theorem d_M_rank_200 : decode b_M_rank 200 = .ok (.iconst 0, 1) := by decide +kernel
theorem d_M_rank_201 : decode b_M_rank 201 = .ok (.istore 9, 2) := by decide +kernel
theorem d_M_rank_203 : decode b_M_rank 203 = .ok (.iload 9, 2) := by decide +kernel
theorem d_M_rank_205 : decode b_M_rank 205 = .ok (.iload_n 2, 1) := by decide +kernel
theorem d_M_rank_206 : decode b_M_rank 206 = .ok (.if_icmp .ge 60, 3) := by decide +kernel
theorem d_M_rank_209 : decode b_M_rank 209 = .ok (.aload_n 0, 1) := by decide +kernel
theorem d_M_rank_210 : decode b_M_rank 210 = .ok (.getfield 24, 3) := by decide +kernel
theorem d_M_rank_213 : decode b_M_rank 213 = .ok (.iconst 5, 1) := by decide +kernel
theorem d_M_rank_214 : decode b_M_rank 214 = .ok (.iload 6, 2) := by decide +kernel
theorem d_M_rank_216 : decode b_M_rank 216 = .ok (.imul, 1) := by decide +kernel
theorem d_M_rank_217 : decode b_M_rank 217 = .ok (.iload 9, 2) := by decide +kernel
theorem d_M_rank_219 : decode b_M_rank 219 = .ok (.iadd, 1) := by decide +kernel
theorem d_M_rank_220 : decode b_M_rank 220 = .ok (.aload_n 0, 1) := by decide +kernel
theorem d_M_rank_221 : decode b_M_rank 221 = .ok (.getfield 24, 3) := by decide +kernel
theorem d_M_rank_224 : decode b_M_rank 224 = .ok (.iconst 5, 1) := by decide +kernel
theorem d_M_rank_225 : decode b_M_rank 225 = .ok (.iload 6, 2) := by decide +kernel
theorem d_M_rank_227 : decode b_M_rank 227 = .ok (.imul, 1) := by decide +kernel
theorem d_M_rank_228 : decode b_M_rank 228 = .ok (.iload 9, 2) := by decide +kernel
theorem d_M_rank_230 : decode b_M_rank 230 = .ok (.iadd, 1) := by decide +kernel
theorem d_M_rank_231 : decode b_M_rank 231 = .ok (.laload, 1) := by decide +kernel
theorem d_M_rank_232 : decode b_M_rank 232 = .ok (.aload_n 0, 1) := by decide +kernel
theorem d_M_rank_233 : decode b_M_rank 233 = .ok (.getfield 24, 3) := by decide +kernel
theorem d_M_rank_236 : decode b_M_rank 236 = .ok (.iconst 5, 1) := by decide +kernel
theorem d_M_rank_237 : decode b_M_rank 237 = .ok (.iload_n 3, 1) := by decide +kernel
theorem d_M_rank_238 : decode b_M_rank 238 = .ok (.imul, 1) := by decide +kernel
theorem d_M_rank_239 : decode b_M_rank 239 = .ok (.iload 4, 2) := by decide +kernel
theorem d_M_rank_241 : decode b_M_rank 241 = .ok (.iadd, 1) := by decide +kernel
theorem d_M_rank_242 : decode b_M_rank 242 = .ok (.laload, 1) := by decide +kernel
theorem d_M_rank_243 : decode b_M_rank 243 = .ok (.lmul, 1) := by decide +kernel
theorem d_M_rank_244 : decode b_M_rank 244 = .ok (.lload 7, 2) := by decide +kernel
theorem d_M_rank_246 : decode b_M_rank 246 = .ok (.aload_n 0, 1) := by decide +kernel
theorem d_M_rank_247 : decode b_M_rank 247 = .ok (.getfield 24, 3) := by decide +kernel
theorem d_M_rank_250 : decode b_M_rank 250 = .ok (.iconst 5, 1) := by decide +kernel
theorem d_M_rank_251 : decode b_M_rank 251 = .ok (.iload_n 3, 1) := by decide +kernel
theorem d_M_rank_252 : decode b_M_rank 252 = .ok (.imul, 1) := by decide +kernel
theorem d_M_rank_253 : decode b_M_rank 253 = .ok (.iload 9, 2) := by decide +kernel
theorem d_M_rank_255 : decode b_M_rank 255 = .ok (.iadd, 1) := by decide +kernel
theorem d_M_rank_256 : decode b_M_rank 256 = .ok (.laload, 1) := by decide +kernel
theorem d_M_rank_257 : decode b_M_rank 257 = .ok (.lmul, 1) := by decide +kernel
theorem d_M_rank_258 : decode b_M_rank 258 = .ok (.lsub, 1) := by decide +kernel
theorem d_M_rank_259 : decode b_M_rank 259 = .ok (.lastore, 1) := by decide +kernel
theorem d_M_rank_260 : decode b_M_rank 260 = .ok (.iinc 9 1, 3) := by decide +kernel
theorem d_M_rank_263 : decode b_M_rank 263 = .ok (.goto (-60), 3) := by decide +kernel
theorem d_M_rank_266 : decode b_M_rank 266 = .ok (.iinc 6 1, 3) := by decide +kernel
theorem d_M_rank_269 : decode b_M_rank 269 = .ok (.goto (-92), 3) := by decide +kernel
theorem d_M_rank_272 : decode b_M_rank 272 = .ok (.iinc 3 1, 3) := by decide +kernel
theorem d_M_rank_275 : decode b_M_rank 275 = .ok (.iinc 4 1, 3) := by decide +kernel
theorem d_M_rank_278 : decode b_M_rank 278 = .ok (.goto (-174), 3) := by decide +kernel
theorem d_M_rank_281 : decode b_M_rank 281 = .ok (.iload_n 3, 1) := by decide +kernel
theorem d_M_rank_282 : decode b_M_rank 282 = .ok (.ireturn, 1) := by decide +kernel
theorem d_M_middle_0 : decode b_M_middle 0 = .ok (.aload_n 0, 1) := by decide +kernel
theorem d_M_middle_1 : decode b_M_middle 1 = .ok (.iconst 0, 1) := by decide +kernel
theorem d_M_middle_2 : decode b_M_middle 2 = .ok (.putfield 45, 3) := by decide +kernel
theorem d_M_middle_5 : decode b_M_middle 5 = .ok (.iload_n 1, 1) := by decide +kernel
theorem d_M_middle_6 : decode b_M_middle 6 = .ok (.i2l, 1) := by decide +kernel
theorem d_M_middle_7 : decode b_M_middle 7 = .ok (.iconst 1, 1) := by decide +kernel
theorem d_M_middle_8 : decode b_M_middle 8 = .ok (.aload_n 0, 1) := by decide +kernel
theorem d_M_middle_9 : decode b_M_middle 9 = .ok (.getfield 7, 3) := by decide +kernel
theorem d_M_middle_12 : decode b_M_middle 12 = .ok (.invokestatic 52, 3) := by decide +kernel
theorem d_M_middle_15 : decode b_M_middle 15 = .ok (.ifCond .eq 13, 3) := by decide +kernel
theorem d_M_middle_18 : decode b_M_middle 18 = .ok (.iload_n 2, 1) := by decide +kernel
theorem d_M_middle_19 : decode b_M_middle 19 = .ok (.i2l, 1) := by decide +kernel
theorem d_M_middle_20 : decode b_M_middle 20 = .ok (.iconst 0, 1) := by decide +kernel
theorem d_M_middle_21 : decode b_M_middle 21 = .ok (.iconst 1, 1) := by decide +kernel
theorem d_M_middle_22 : decode b_M_middle 22 = .ok (.invokestatic 52, 3) := by decide +kernel
theorem d_M_middle_25 : decode b_M_middle 25 = .ok (.ifCond .ne 7, 3) := by decide +kernel
theorem d_M_middle_28 : decode b_M_middle 28 = .ok (.ldc2_w 56, 3) := by decide +kernel
theorem d_M_middle_31 : decode b_M_middle 31 = .ok (.lreturn, 1) := by decide +kernel
theorem d_M_middle_32 : decode b_M_middle 32 = .ok (.aload_n 0, 1) := by decide +kernel
theorem d_M_middle_33 : decode b_M_middle 33 = .ok (.iconst 0, 1) := by decide +kernel
theorem d_M_middle_34 : decode b_M_middle 34 = .ok (.invokevirtual 97, 3) := by decide +kernel
theorem d_M_middle_37 : decode b_M_middle 37 = .ok (.aload_n 0, 1) := by decide +kernel
theorem d_M_middle_38 : decode b_M_middle 38 = .ok (.aload_n 0, 1) := by decide +kernel
theorem d_M_middle_39 : decode b_M_middle 39 = .ok (.getfield 7, 3) := by decide +kernel
theorem d_M_middle_42 : decode b_M_middle 42 = .ok (.invokevirtual 82, 3) := by decide +kernel
theorem d_M_middle_45 : decode b_M_middle 45 = .ok (.lstore_n 3, 1) := by decide +kernel
theorem d_M_middle_46 : decode b_M_middle 46 = .ok (.lload_n 3, 1) := by decide +kernel
theorem d_M_middle_47 : decode b_M_middle 47 = .ok (.lconst 0, 1) := by decide +kernel
theorem d_M_middle_48 : decode b_M_middle 48 = .ok (.lcmp, 1) := by decide +kernel
theorem d_M_middle_49 : decode b_M_middle 49 = .ok (.ifCond .ne 7, 3) := by decide +kernel
theorem d_M_middle_52 : decode b_M_middle 52 = .ok (.ldc2_w 56, 3) := by decide +kernel
theorem d_M_middle_55 : decode b_M_middle 55 = .ok (.lreturn, 1) := by decide +kernel
theorem d_M_middle_56 : decode b_M_middle 56 = .ok (.iconst 0, 1) := by decide +kernel
theorem d_M_middle_57 : decode b_M_middle 57 = .ok (.istore 5, 2) := by decide +kernel
theorem d_M_middle_59 : decode b_M_middle 59 = .ok (.iload 5, 2) := by decide +kernel
theorem d_M_middle_61 : decode b_M_middle 61 = .ok (.aload_n 0, 1) := by decide +kernel
theorem d_M_middle_62 : decode b_M_middle 62 = .ok (.getfield 7, 3) := by decide +kernel
theorem d_M_middle_65 : decode b_M_middle 65 = .ok (.if_icmp .ge 35, 3) := by decide +kernel
theorem d_M_middle_68 : decode b_M_middle 68 = .ok (.aload_n 0, 1) := by decide +kernel
theorem d_M_middle_69 : decode b_M_middle 69 = .ok (.getfield 20, 3) := by decide +kernel
theorem d_M_middle_72 : decode b_M_middle 72 = .ok (.iconst 4, 1) := by decide +kernel
theorem d_M_middle_73 : decode b_M_middle 73 = .ok (.iload 5, 2) := by decide +kernel
theorem d_M_middle_75 : decode b_M_middle 75 = .ok (.imul, 1) := by decide +kernel
theorem d_M_middle_76 : decode b_M_middle 76 = .ok (.iload_n 1, 1) := by decide +kernel
theorem d_M_middle_77 : decode b_M_middle 77 = .ok (.iadd, 1) := by decide +kernel
theorem d_M_middle_78 : decode b_M_middle 78 = .ok (.iconst 1, 1) := by decide +kernel
theorem d_M_middle_79 : decode b_M_middle 79 = .ok (.isub, 1) := by decide +kernel
theorem d_M_middle_80 : decode b_M_middle 80 = .ok (.aload_n 0, 1) := by decide +kernel
theorem d_M_middle_81 : decode b_M_middle 81 = .ok (.getfield 13, 3) := by decide +kernel
theorem d_M_middle_84 : decode b_M_middle 84 = .ok (.iconst 4, 1) := by decide +kernel
theorem d_M_middle_85 : decode b_M_middle 85 = .ok (.iload 5, 2) := by decide +kernel
theorem d_M_middle_87 : decode b_M_middle 87 = .ok (.iconst 1, 1) := by decide +kernel
theorem d_M_middle_88 : decode b_M_middle 88 = .ok (.iadd, 1) := by decide +kernel
theorem d_M_middle_89 : decode b_M_middle 89 = .ok (.imul, 1) := by decide +kernel
theorem d_M_middle_90 : decode b_M_middle 90 = .ok (.iaload, 1) := by decide +kernel
theorem d_M_middle_91 : decode b_M_middle 91 = .ok (.ineg, 1) := by decide +kernel
theorem d_M_middle_92 : decode b_M_middle 92 = .ok (.i2l, 1) := by decide +kernel
theorem d_M_middle_93 : decode b_M_middle 93 = .ok (.lastore, 1) := by decide +kernel
theorem d_M_middle_94 : decode b_M_middle 94 = .ok (.iinc 5 1, 3) := by decide +kernel
theorem d_M_middle_97 : decode b_M_middle 97 = .ok (.goto (-38), 3) := by decide +kernel
theorem d_M_middle_100 : decode b_M_middle 100 = .ok (.aload_n 0, 1) := by decide +kernel
theorem d_M_middle_101 : decode b_M_middle 101 = .ok (.aload_n 0, 1) := by decide +kernel
theorem d_M_middle_102 : decode b_M_middle 102 = .ok (.getfield 7, 3) := by decide +kernel
theorem d_M_middle_105 : decode b_M_middle 105 = .ok (.invokevirtual 82, 3) := by decide +kernel
theorem d_M_middle_108 : decode b_M_middle 108 = .ok (.lload_n 3, 1) := by decide +kernel
theorem d_M_middle_109 : decode b_M_middle 109 = .ok (.iload_n 2, 1) := by decide +kernel
theorem d_M_middle_110 : decode b_M_middle 110 = .ok (.invokestatic 122, 3) := by decide +kernel
theorem d_M_middle_113 : decode b_M_middle 113 = .ok (.lreturn, 1) := by decide +kernel
theorem d_M_part_0 : decode b_M_part 0 = .ok (.lload_n 2, 1) := by decide +kernel
theorem d_M_part_1 : decode b_M_part 1 = .ok (.lconst 0, 1) := by decide +kernel
theorem d_M_part_2 : decode b_M_part 2 = .ok (.lcmp, 1) := by decide +kernel
theorem d_M_part_3 : decode b_M_part 3 = .ok (.ifCond .ge 12, 3) := by decide +kernel
theorem d_M_part_6 : decode b_M_part 6 = .ok (.lload_n 0, 1) := by decide +kernel
theorem d_M_part_7 : decode b_M_part 7 = .ok (.lload_n 2, 1) := by decide +kernel
theorem d_M_part_8 : decode b_M_part 8 = .ok (.invokestatic 118, 3) := by decide +kernel
theorem d_M_part_11 : decode b_M_part 11 = .ok (.lneg, 1) := by decide +kernel
theorem d_M_part_12 : decode b_M_part 12 = .ok (.goto 8, 3) := by decide +kernel
theorem d_M_part_15 : decode b_M_part 15 = .ok (.lload_n 0, 1) := by decide +kernel
theorem d_M_part_16 : decode b_M_part 16 = .ok (.lload_n 2, 1) := by decide +kernel
theorem d_M_part_17 : decode b_M_part 17 = .ok (.invokestatic 118, 3) := by decide +kernel
theorem d_M_part_20 : decode b_M_part 20 = .ok (.lstore 5, 2) := by decide +kernel
theorem d_M_part_22 : decode b_M_part 22 = .ok (.iload 4, 2) := by decide +kernel
theorem d_M_part_24 : decode b_M_part 24 = .ok (.ifCond .ne 10, 3) := by decide +kernel
theorem d_M_part_27 : decode b_M_part 27 = .ok (.lload_n 0, 1) := by decide +kernel
theorem d_M_part_28 : decode b_M_part 28 = .ok (.lload 5, 2) := by decide +kernel
theorem d_M_part_30 : decode b_M_part 30 = .ok (.ldiv, 1) := by decide +kernel
theorem d_M_part_31 : decode b_M_part 31 = .ok (.goto 7, 3) := by decide +kernel
theorem d_M_part_34 : decode b_M_part 34 = .ok (.lload_n 2, 1) := by decide +kernel
theorem d_M_part_35 : decode b_M_part 35 = .ok (.lload 5, 2) := by decide +kernel
theorem d_M_part_37 : decode b_M_part 37 = .ok (.ldiv, 1) := by decide +kernel
theorem d_M_part_38 : decode b_M_part 38 = .ok (.lreturn, 1) := by decide +kernel
theorem d_M_divisor_0 : decode b_M_divisor 0 = .ok (.lload_n 0, 1) := by decide +kernel
theorem d_M_divisor_1 : decode b_M_divisor 1 = .ok (.lconst 0, 1) := by decide +kernel
theorem d_M_divisor_2 : decode b_M_divisor 2 = .ok (.lcmp, 1) := by decide +kernel
theorem d_M_divisor_3 : decode b_M_divisor 3 = .ok (.ifCond .ge 8, 3) := by decide +kernel
theorem d_M_divisor_6 : decode b_M_divisor 6 = .ok (.lload_n 0, 1) := by decide +kernel
theorem d_M_divisor_7 : decode b_M_divisor 7 = .ok (.lneg, 1) := by decide +kernel
theorem d_M_divisor_8 : decode b_M_divisor 8 = .ok (.goto 4, 3) := by decide +kernel
theorem d_M_divisor_11 : decode b_M_divisor 11 = .ok (.lload_n 0, 1) := by decide +kernel
theorem d_M_divisor_12 : decode b_M_divisor 12 = .ok (.lstore 4, 2) := by decide +kernel
theorem d_M_divisor_14 : decode b_M_divisor 14 = .ok (.lload_n 2, 1) := by decide +kernel
theorem d_M_divisor_15 : decode b_M_divisor 15 = .ok (.lconst 0, 1) := by decide +kernel
theorem d_M_divisor_16 : decode b_M_divisor 16 = .ok (.lcmp, 1) := by decide +kernel
theorem d_M_divisor_17 : decode b_M_divisor 17 = .ok (.ifCond .ge 8, 3) := by decide +kernel
theorem d_M_divisor_20 : decode b_M_divisor 20 = .ok (.lload_n 2, 1) := by decide +kernel
theorem d_M_divisor_21 : decode b_M_divisor 21 = .ok (.lneg, 1) := by decide +kernel
theorem d_M_divisor_22 : decode b_M_divisor 22 = .ok (.goto 4, 3) := by decide +kernel
theorem d_M_divisor_25 : decode b_M_divisor 25 = .ok (.lload_n 2, 1) := by decide +kernel
theorem d_M_divisor_26 : decode b_M_divisor 26 = .ok (.lstore 6, 2) := by decide +kernel
theorem d_M_divisor_28 : decode b_M_divisor 28 = .ok (.lload 6, 2) := by decide +kernel
theorem d_M_divisor_30 : decode b_M_divisor 30 = .ok (.lconst 0, 1) := by decide +kernel
theorem d_M_divisor_31 : decode b_M_divisor 31 = .ok (.lcmp, 1) := by decide +kernel
theorem d_M_divisor_32 : decode b_M_divisor 32 = .ok (.ifCond .eq 21, 3) := by decide +kernel
theorem d_M_divisor_35 : decode b_M_divisor 35 = .ok (.lload 4, 2) := by decide +kernel
theorem d_M_divisor_37 : decode b_M_divisor 37 = .ok (.lload 6, 2) := by decide +kernel
theorem d_M_divisor_39 : decode b_M_divisor 39 = .ok (.lrem, 1) := by decide +kernel
theorem d_M_divisor_40 : decode b_M_divisor 40 = .ok (.lstore 8, 2) := by decide +kernel
theorem d_M_divisor_42 : decode b_M_divisor 42 = .ok (.lload 6, 2) := by decide +kernel
theorem d_M_divisor_44 : decode b_M_divisor 44 = .ok (.lstore 4, 2) := by decide +kernel
theorem d_M_divisor_46 : decode b_M_divisor 46 = .ok (.lload 8, 2) := by decide +kernel
theorem d_M_divisor_48 : decode b_M_divisor 48 = .ok (.lstore 6, 2) := by decide +kernel
theorem d_M_divisor_50 : decode b_M_divisor 50 = .ok (.goto (-22), 3) := by decide +kernel
theorem d_M_divisor_53 : decode b_M_divisor 53 = .ok (.lload 4, 2) := by decide +kernel
theorem d_M_divisor_55 : decode b_M_divisor 55 = .ok (.lreturn, 1) := by decide +kernel
theorem d_M_height_0 : decode b_M_height 0 = .ok (.aload_n 0, 1) := by decide +kernel
theorem d_M_height_1 : decode b_M_height 1 = .ok (.iconst 0, 1) := by decide +kernel
theorem d_M_height_2 : decode b_M_height 2 = .ok (.putfield 45, 3) := by decide +kernel
theorem d_M_height_5 : decode b_M_height 5 = .ok (.iload_n 1, 1) := by decide +kernel
theorem d_M_height_6 : decode b_M_height 6 = .ok (.i2l, 1) := by decide +kernel
theorem d_M_height_7 : decode b_M_height 7 = .ok (.iconst 0, 1) := by decide +kernel
theorem d_M_height_8 : decode b_M_height 8 = .ok (.iconst 1, 1) := by decide +kernel
theorem d_M_height_9 : decode b_M_height 9 = .ok (.invokestatic 52, 3) := by decide +kernel
theorem d_M_height_12 : decode b_M_height 12 = .ok (.ifCond .ne 7, 3) := by decide +kernel
theorem d_M_height_15 : decode b_M_height 15 = .ok (.ldc2_w 56, 3) := by decide +kernel
theorem d_M_height_18 : decode b_M_height 18 = .ok (.lreturn, 1) := by decide +kernel
theorem d_M_height_19 : decode b_M_height 19 = .ok (.aload_n 0, 1) := by decide +kernel
theorem d_M_height_20 : decode b_M_height 20 = .ok (.iconst 0, 1) := by decide +kernel
theorem d_M_height_21 : decode b_M_height 21 = .ok (.invokevirtual 97, 3) := by decide +kernel
theorem d_M_height_24 : decode b_M_height 24 = .ok (.aload_n 0, 1) := by decide +kernel
theorem d_M_height_25 : decode b_M_height 25 = .ok (.aload_n 0, 1) := by decide +kernel
theorem d_M_height_26 : decode b_M_height 26 = .ok (.getfield 7, 3) := by decide +kernel
theorem d_M_height_29 : decode b_M_height 29 = .ok (.invokevirtual 82, 3) := by decide +kernel
theorem d_M_height_32 : decode b_M_height 32 = .ok (.lstore_n 2, 1) := by decide +kernel
theorem d_M_height_33 : decode b_M_height 33 = .ok (.lload_n 2, 1) := by decide +kernel
theorem d_M_height_34 : decode b_M_height 34 = .ok (.lconst 0, 1) := by decide +kernel
theorem d_M_height_35 : decode b_M_height 35 = .ok (.lcmp, 1) := by decide +kernel
theorem d_M_height_36 : decode b_M_height 36 = .ok (.ifCond .ne 10, 3) := by decide +kernel
theorem d_M_height_39 : decode b_M_height 39 = .ok (.aload_n 0, 1) := by decide +kernel
theorem d_M_height_40 : decode b_M_height 40 = .ok (.iconst 1, 1) := by decide +kernel
theorem d_M_height_41 : decode b_M_height 41 = .ok (.putfield 45, 3) := by decide +kernel
theorem d_M_height_44 : decode b_M_height 44 = .ok (.lconst 0, 1) := by decide +kernel
theorem d_M_height_45 : decode b_M_height 45 = .ok (.lreturn, 1) := by decide +kernel
theorem d_M_height_46 : decode b_M_height 46 = .ok (.aload_n 0, 1) := by decide +kernel
theorem d_M_height_47 : decode b_M_height 47 = .ok (.iconst 1, 1) := by decide +kernel
theorem d_M_height_48 : decode b_M_height 48 = .ok (.invokevirtual 97, 3) := by decide +kernel
theorem d_M_height_51 : decode b_M_height 51 = .ok (.aload_n 0, 1) := by decide +kernel
theorem d_M_height_52 : decode b_M_height 52 = .ok (.aload_n 0, 1) := by decide +kernel
theorem d_M_height_53 : decode b_M_height 53 = .ok (.getfield 7, 3) := by decide +kernel
theorem d_M_height_56 : decode b_M_height 56 = .ok (.iconst 1, 1) := by decide +kernel
theorem d_M_height_57 : decode b_M_height 57 = .ok (.iadd, 1) := by decide +kernel
theorem d_M_height_58 : decode b_M_height 58 = .ok (.invokevirtual 82, 3) := by decide +kernel
theorem d_M_height_61 : decode b_M_height 61 = .ok (.lload_n 2, 1) := by decide +kernel
theorem d_M_height_62 : decode b_M_height 62 = .ok (.iload_n 1, 1) := by decide +kernel
theorem d_M_height_63 : decode b_M_height 63 = .ok (.invokestatic 122, 3) := by decide +kernel
theorem d_M_height_66 : decode b_M_height 66 = .ok (.lreturn, 1) := by decide +kernel
theorem d_M_below_0 : decode b_M_below 0 = .ok (.aload_n 0, 1) := by decide +kernel
theorem d_M_below_1 : decode b_M_below 1 = .ok (.iconst 0, 1) := by decide +kernel
theorem d_M_below_2 : decode b_M_below 2 = .ok (.putfield 45, 3) := by decide +kernel
theorem d_M_below_5 : decode b_M_below 5 = .ok (.iload_n 1, 1) := by decide +kernel
theorem d_M_below_6 : decode b_M_below 6 = .ok (.i2l, 1) := by decide +kernel
theorem d_M_below_7 : decode b_M_below 7 = .ok (.sipush (-2000), 3) := by decide +kernel
theorem d_M_below_10 : decode b_M_below 10 = .ok (.sipush 2000, 3) := by decide +kernel
theorem d_M_below_13 : decode b_M_below 13 = .ok (.invokestatic 52, 3) := by decide +kernel
theorem d_M_below_16 : decode b_M_below 16 = .ok (.ifCond .eq 14, 3) := by decide +kernel
theorem d_M_below_19 : decode b_M_below 19 = .ok (.iload_n 2, 1) := by decide +kernel
theorem d_M_below_20 : decode b_M_below 20 = .ok (.i2l, 1) := by decide +kernel
theorem d_M_below_21 : decode b_M_below 21 = .ok (.iconst 1, 1) := by decide +kernel
theorem d_M_below_22 : decode b_M_below 22 = .ok (.bipush 100, 2) := by decide +kernel
theorem d_M_below_24 : decode b_M_below 24 = .ok (.invokestatic 52, 3) := by decide +kernel
theorem d_M_below_27 : decode b_M_below 27 = .ok (.ifCond .ne 6, 3) := by decide +kernel
theorem d_M_below_30 : decode b_M_below 30 = .ok (.bipush (-2), 2) := by decide +kernel
theorem d_M_below_32 : decode b_M_below 32 = .ok (.ireturn, 1) := by decide +kernel
theorem d_M_below_33 : decode b_M_below 33 = .ok (.aload_n 0, 1) := by decide +kernel
theorem d_M_below_34 : decode b_M_below 34 = .ok (.iconst 0, 1) := by decide +kernel
theorem d_M_below_35 : decode b_M_below 35 = .ok (.invokevirtual 97, 3) := by decide +kernel
theorem d_M_below_38 : decode b_M_below 38 = .ok (.iconst 0, 1) := by decide +kernel
theorem d_M_below_39 : decode b_M_below 39 = .ok (.istore_n 3, 1) := by decide +kernel
theorem d_M_below_40 : decode b_M_below 40 = .ok (.iload_n 3, 1) := by decide +kernel
theorem d_M_below_41 : decode b_M_below 41 = .ok (.aload_n 0, 1) := by decide +kernel
theorem d_M_below_42 : decode b_M_below 42 = .ok (.getfield 7, 3) := by decide +kernel
theorem d_M_below_45 : decode b_M_below 45 = .ok (.if_icmp .ge 65, 3) := by decide +kernel
theorem d_M_below_48 : decode b_M_below 48 = .ok (.iconst 0, 1) := by decide +kernel
theorem d_M_below_49 : decode b_M_below 49 = .ok (.istore 4, 2) := by decide +kernel
theorem d_M_below_51 : decode b_M_below 51 = .ok (.iload 4, 2) := by decide +kernel
theorem d_M_below_53 : decode b_M_below 53 = .ok (.aload_n 0, 1) := by decide +kernel
theorem d_M_below_54 : decode b_M_below 54 = .ok (.getfield 7, 3) := by decide +kernel
theorem d_M_below_57 : decode b_M_below 57 = .ok (.if_icmp .ge 47, 3) := by decide +kernel
theorem d_M_below_60 : decode b_M_below 60 = .ok (.aload_n 0, 1) := by decide +kernel
theorem d_M_below_61 : decode b_M_below 61 = .ok (.getfield 20, 3) := by decide +kernel
theorem d_M_below_64 : decode b_M_below 64 = .ok (.iconst 4, 1) := by decide +kernel
theorem d_M_below_65 : decode b_M_below 65 = .ok (.iload_n 3, 1) := by decide +kernel
theorem d_M_below_66 : decode b_M_below 66 = .ok (.imul, 1) := by decide +kernel
theorem d_M_below_67 : decode b_M_below 67 = .ok (.iload 4, 2) := by decide +kernel
theorem d_M_below_69 : decode b_M_below 69 = .ok (.iadd, 1) := by decide +kernel
theorem d_M_below_70 : decode b_M_below 70 = .ok (.iload_n 2, 1) := by decide +kernel
theorem d_M_below_71 : decode b_M_below 71 = .ok (.i2l, 1) := by decide +kernel
theorem d_M_below_72 : decode b_M_below 72 = .ok (.aload_n 0, 1) := by decide +kernel
theorem d_M_below_73 : decode b_M_below 73 = .ok (.getfield 20, 3) := by decide +kernel
theorem d_M_below_76 : decode b_M_below 76 = .ok (.iconst 4, 1) := by decide +kernel
theorem d_M_below_77 : decode b_M_below 77 = .ok (.iload_n 3, 1) := by decide +kernel
theorem d_M_below_78 : decode b_M_below 78 = .ok (.imul, 1) := by decide +kernel
theorem d_M_below_79 : decode b_M_below 79 = .ok (.iload 4, 2) := by decide +kernel
theorem d_M_below_81 : decode b_M_below 81 = .ok (.iadd, 1) := by decide +kernel
theorem d_M_below_82 : decode b_M_below 82 = .ok (.laload, 1) := by decide +kernel
theorem d_M_below_83 : decode b_M_below 83 = .ok (.lmul, 1) := by decide +kernel
theorem d_M_below_84 : decode b_M_below 84 = .ok (.iload_n 3, 1) := by decide +kernel
theorem d_M_below_85 : decode b_M_below 85 = .ok (.iload 4, 2) := by decide +kernel
theorem d_M_below_87 : decode b_M_below 87 = .ok (.if_icmp .ne 7, 3) := by decide +kernel
theorem d_M_below_90 : decode b_M_below 90 = .ok (.iload_n 1, 1) := by decide +kernel
theorem d_M_below_91 : decode b_M_below 91 = .ok (.goto 4, 3) := by decide +kernel
theorem d_M_below_94 : decode b_M_below 94 = .ok (.iconst 0, 1) := by decide +kernel
theorem d_M_below_95 : decode b_M_below 95 = .ok (.i2l, 1) := by decide +kernel
theorem d_M_below_96 : decode b_M_below 96 = .ok (.lsub, 1) := by decide +kernel
theorem d_M_below_97 : decode b_M_below 97 = .ok (.lastore, 1) := by decide +kernel
theorem d_M_below_98 : decode b_M_below 98 = .ok (.iinc 4 1, 3) := by decide +kernel
theorem d_M_below_101 : decode b_M_below 101 = .ok (.goto (-50), 3) := by decide +kernel
theorem d_M_below_104 : decode b_M_below 104 = .ok (.iinc 3 1, 3) := by decide +kernel
theorem d_M_below_107 : decode b_M_below 107 = .ok (.goto (-67), 3) := by decide +kernel
theorem d_M_below_110 : decode b_M_below 110 = .ok (.aload_n 0, 1) := by decide +kernel
theorem d_M_below_111 : decode b_M_below 111 = .ok (.invokevirtual 101, 3) := by decide +kernel
theorem d_M_below_114 : decode b_M_below 114 = .ok (.aload_n 0, 1) := by decide +kernel
theorem d_M_below_115 : decode b_M_below 115 = .ok (.getfield 79, 3) := by decide +kernel
theorem d_M_below_118 : decode b_M_below 118 = .ok (.ireturn, 1) := by decide +kernel
theorem d_M_unlike_0 : decode b_M_unlike 0 = .ok (.aload_n 0, 1) := by decide +kernel
theorem d_M_unlike_1 : decode b_M_unlike 1 = .ok (.iconst 0, 1) := by decide +kernel
theorem d_M_unlike_2 : decode b_M_unlike 2 = .ok (.putfield 45, 3) := by decide +kernel
theorem d_M_unlike_5 : decode b_M_unlike 5 = .ok (.iconst 1, 1) := by decide +kernel
theorem d_M_unlike_6 : decode b_M_unlike 6 = .ok (.istore_n 1, 1) := by decide +kernel
theorem d_M_unlike_7 : decode b_M_unlike 7 = .ok (.iconst 1, 1) := by decide +kernel
theorem d_M_unlike_8 : decode b_M_unlike 8 = .ok (.istore_n 2, 1) := by decide +kernel
theorem d_M_unlike_9 : decode b_M_unlike 9 = .ok (.iload_n 2, 1) := by decide +kernel
theorem d_M_unlike_10 : decode b_M_unlike 10 = .ok (.aload_n 0, 1) := by decide +kernel
theorem d_M_unlike_11 : decode b_M_unlike 11 = .ok (.getfield 7, 3) := by decide +kernel
theorem d_M_unlike_14 : decode b_M_unlike 14 = .ok (.if_icmp .gt 63, 3) := by decide +kernel
theorem d_M_unlike_17 : decode b_M_unlike 17 = .ok (.iconst 1, 1) := by decide +kernel
theorem d_M_unlike_18 : decode b_M_unlike 18 = .ok (.istore_n 3, 1) := by decide +kernel
theorem d_M_unlike_19 : decode b_M_unlike 19 = .ok (.iload_n 3, 1) := by decide +kernel
theorem d_M_unlike_20 : decode b_M_unlike 20 = .ok (.aload_n 0, 1) := by decide +kernel
theorem d_M_unlike_21 : decode b_M_unlike 21 = .ok (.getfield 7, 3) := by decide +kernel
theorem d_M_unlike_24 : decode b_M_unlike 24 = .ok (.if_icmp .gt 47, 3) := by decide +kernel
theorem d_M_unlike_27 : decode b_M_unlike 27 = .ok (.iload_n 1, 1) := by decide +kernel
theorem d_M_unlike_28 : decode b_M_unlike 28 = .ok (.ifCond .eq 35, 3) := by decide +kernel
theorem d_M_unlike_31 : decode b_M_unlike 31 = .ok (.aload_n 0, 1) := by decide +kernel
theorem d_M_unlike_32 : decode b_M_unlike 32 = .ok (.getfield 13, 3) := by decide +kernel
theorem d_M_unlike_35 : decode b_M_unlike 35 = .ok (.iconst 4, 1) := by decide +kernel
theorem d_M_unlike_36 : decode b_M_unlike 36 = .ok (.iload_n 2, 1) := by decide +kernel
theorem d_M_unlike_37 : decode b_M_unlike 37 = .ok (.imul, 1) := by decide +kernel
theorem d_M_unlike_38 : decode b_M_unlike 38 = .ok (.iload_n 3, 1) := by decide +kernel
theorem d_M_unlike_39 : decode b_M_unlike 39 = .ok (.iadd, 1) := by decide +kernel
theorem d_M_unlike_40 : decode b_M_unlike 40 = .ok (.iaload, 1) := by decide +kernel
theorem d_M_unlike_41 : decode b_M_unlike 41 = .ok (.iload_n 2, 1) := by decide +kernel
theorem d_M_unlike_42 : decode b_M_unlike 42 = .ok (.iload_n 3, 1) := by decide +kernel
theorem d_M_unlike_43 : decode b_M_unlike 43 = .ok (.if_icmp .ne 12, 3) := by decide +kernel
theorem d_M_unlike_46 : decode b_M_unlike 46 = .ok (.aload_n 0, 1) := by decide +kernel
theorem d_M_unlike_47 : decode b_M_unlike 47 = .ok (.getfield 13, 3) := by decide +kernel
theorem d_M_unlike_50 : decode b_M_unlike 50 = .ok (.iconst 5, 1) := by decide +kernel
theorem d_M_unlike_51 : decode b_M_unlike 51 = .ok (.iaload, 1) := by decide +kernel
theorem d_M_unlike_52 : decode b_M_unlike 52 = .ok (.goto 4, 3) := by decide +kernel
theorem d_M_unlike_55 : decode b_M_unlike 55 = .ok (.iconst 0, 1) := by decide +kernel
theorem d_M_unlike_56 : decode b_M_unlike 56 = .ok (.if_icmp .ne 7, 3) := by decide +kernel
theorem d_M_unlike_59 : decode b_M_unlike 59 = .ok (.iconst 1, 1) := by decide +kernel
theorem d_M_unlike_60 : decode b_M_unlike 60 = .ok (.goto 4, 3) := by decide +kernel
theorem d_M_unlike_63 : decode b_M_unlike 63 = .ok (.iconst 0, 1) := by decide +kernel
theorem d_M_unlike_64 : decode b_M_unlike 64 = .ok (.istore_n 1, 1) := by decide +kernel
theorem d_M_unlike_65 : decode b_M_unlike 65 = .ok (.iinc 3 1, 3) := by decide +kernel
theorem d_M_unlike_68 : decode b_M_unlike 68 = .ok (.goto (-49), 3) := by decide +kernel
theorem d_M_unlike_71 : decode b_M_unlike 71 = .ok (.iinc 2 1, 3) := by decide +kernel
theorem d_M_unlike_74 : decode b_M_unlike 74 = .ok (.goto (-65), 3) := by decide +kernel
theorem d_M_unlike_77 : decode b_M_unlike 77 = .ok (.iload_n 1, 1) := by decide +kernel
theorem d_M_unlike_78 : decode b_M_unlike 78 = .ok (.ifCond .ne 11, 3) := by decide +kernel
theorem d_M_unlike_81 : decode b_M_unlike 81 = .ok (.aload_n 0, 1) := by decide +kernel
theorem d_M_unlike_82 : decode b_M_unlike 82 = .ok (.getfield 7, 3) := by decide +kernel
theorem d_M_unlike_85 : decode b_M_unlike 85 = .ok (.iconst 2, 1) := by decide +kernel
theorem d_M_unlike_86 : decode b_M_unlike 86 = .ok (.if_icmp .ne 13, 3) := by decide +kernel
theorem d_M_unlike_89 : decode b_M_unlike 89 = .ok (.iload_n 1, 1) := by decide +kernel
theorem d_M_unlike_90 : decode b_M_unlike 90 = .ok (.ifCond .eq 7, 3) := by decide +kernel
theorem d_M_unlike_93 : decode b_M_unlike 93 = .ok (.iconst 1, 1) := by decide +kernel
theorem d_M_unlike_94 : decode b_M_unlike 94 = .ok (.goto 4, 3) := by decide +kernel
theorem d_M_unlike_97 : decode b_M_unlike 97 = .ok (.iconst 2, 1) := by decide +kernel
theorem d_M_unlike_98 : decode b_M_unlike 98 = .ok (.ireturn, 1) := by decide +kernel
theorem d_M_unlike_99 : decode b_M_unlike 99 = .ok (.aload_n 0, 1) := by decide +kernel
theorem d_M_unlike_100 : decode b_M_unlike 100 = .ok (.iconst 0, 1) := by decide +kernel
theorem d_M_unlike_101 : decode b_M_unlike 101 = .ok (.invokevirtual 97, 3) := by decide +kernel
theorem d_M_unlike_104 : decode b_M_unlike 104 = .ok (.aload_n 0, 1) := by decide +kernel
theorem d_M_unlike_105 : decode b_M_unlike 105 = .ok (.iconst 1, 1) := by decide +kernel
theorem d_M_unlike_106 : decode b_M_unlike 106 = .ok (.invokevirtual 82, 3) := by decide +kernel
theorem d_M_unlike_109 : decode b_M_unlike 109 = .ok (.lneg, 1) := by decide +kernel
theorem d_M_unlike_110 : decode b_M_unlike 110 = .ok (.lstore_n 2, 1) := by decide +kernel
theorem d_M_unlike_111 : decode b_M_unlike 111 = .ok (.aload_n 0, 1) := by decide +kernel
theorem d_M_unlike_112 : decode b_M_unlike 112 = .ok (.iconst 2, 1) := by decide +kernel
theorem d_M_unlike_113 : decode b_M_unlike 113 = .ok (.invokevirtual 82, 3) := by decide +kernel
theorem d_M_unlike_116 : decode b_M_unlike 116 = .ok (.lstore 4, 2) := by decide +kernel
theorem d_M_unlike_118 : decode b_M_unlike 118 = .ok (.aload_n 0, 1) := by decide +kernel
theorem d_M_unlike_119 : decode b_M_unlike 119 = .ok (.iconst 3, 1) := by decide +kernel
theorem d_M_unlike_120 : decode b_M_unlike 120 = .ok (.invokevirtual 82, 3) := by decide +kernel
theorem d_M_unlike_123 : decode b_M_unlike 123 = .ok (.lneg, 1) := by decide +kernel
theorem d_M_unlike_124 : decode b_M_unlike 124 = .ok (.lstore 6, 2) := by decide +kernel
theorem d_M_unlike_126 : decode b_M_unlike 126 = .ok (.ldc2_w 126, 3) := by decide +kernel
theorem d_M_unlike_129 : decode b_M_unlike 129 = .ok (.lload_n 2, 1) := by decide +kernel
theorem d_M_unlike_130 : decode b_M_unlike 130 = .ok (.lmul, 1) := by decide +kernel
theorem d_M_unlike_131 : decode b_M_unlike 131 = .ok (.lload 4, 2) := by decide +kernel
theorem d_M_unlike_133 : decode b_M_unlike 133 = .ok (.lmul, 1) := by decide +kernel
theorem d_M_unlike_134 : decode b_M_unlike 134 = .ok (.lload 6, 2) := by decide +kernel
theorem d_M_unlike_136 : decode b_M_unlike 136 = .ok (.lmul, 1) := by decide +kernel
theorem d_M_unlike_137 : decode b_M_unlike 137 = .ok (.ldc2_w 128, 3) := by decide +kernel
theorem d_M_unlike_140 : decode b_M_unlike 140 = .ok (.lload_n 2, 1) := by decide +kernel
theorem d_M_unlike_141 : decode b_M_unlike 141 = .ok (.lmul, 1) := by decide +kernel
theorem d_M_unlike_142 : decode b_M_unlike 142 = .ok (.lload_n 2, 1) := by decide +kernel
theorem d_M_unlike_143 : decode b_M_unlike 143 = .ok (.lmul, 1) := by decide +kernel
theorem d_M_unlike_144 : decode b_M_unlike 144 = .ok (.lload_n 2, 1) := by decide +kernel
theorem d_M_unlike_145 : decode b_M_unlike 145 = .ok (.lmul, 1) := by decide +kernel
theorem d_M_unlike_146 : decode b_M_unlike 146 = .ok (.lload 6, 2) := by decide +kernel
theorem d_M_unlike_148 : decode b_M_unlike 148 = .ok (.lmul, 1) := by decide +kernel
theorem d_M_unlike_149 : decode b_M_unlike 149 = .ok (.lsub, 1) := by decide +kernel
theorem d_M_unlike_150 : decode b_M_unlike 150 = .ok (.lload_n 2, 1) := by decide +kernel
theorem d_M_unlike_151 : decode b_M_unlike 151 = .ok (.lload_n 2, 1) := by decide +kernel
theorem d_M_unlike_152 : decode b_M_unlike 152 = .ok (.lmul, 1) := by decide +kernel
theorem d_M_unlike_153 : decode b_M_unlike 153 = .ok (.lload 4, 2) := by decide +kernel
theorem d_M_unlike_155 : decode b_M_unlike 155 = .ok (.lmul, 1) := by decide +kernel
theorem d_M_unlike_156 : decode b_M_unlike 156 = .ok (.lload 4, 2) := by decide +kernel
theorem d_M_unlike_158 : decode b_M_unlike 158 = .ok (.lmul, 1) := by decide +kernel
theorem d_M_unlike_159 : decode b_M_unlike 159 = .ok (.ladd, 1) := by decide +kernel
theorem d_M_unlike_160 : decode b_M_unlike 160 = .ok (.ldc2_w 128, 3) := by decide +kernel
theorem d_M_unlike_163 : decode b_M_unlike 163 = .ok (.lload 4, 2) := by decide +kernel
theorem d_M_unlike_165 : decode b_M_unlike 165 = .ok (.lmul, 1) := by decide +kernel
theorem d_M_unlike_166 : decode b_M_unlike 166 = .ok (.lload 4, 2) := by decide +kernel
theorem d_M_unlike_168 : decode b_M_unlike 168 = .ok (.lmul, 1) := by decide +kernel
theorem d_M_unlike_169 : decode b_M_unlike 169 = .ok (.lload 4, 2) := by decide +kernel
theorem d_M_unlike_171 : decode b_M_unlike 171 = .ok (.lmul, 1) := by decide +kernel
theorem d_M_unlike_172 : decode b_M_unlike 172 = .ok (.lsub, 1) := by decide +kernel
theorem d_M_unlike_173 : decode b_M_unlike 173 = .ok (.ldc2_w 130, 3) := by decide +kernel
theorem d_M_unlike_176 : decode b_M_unlike 176 = .ok (.lload 6, 2) := by decide +kernel
theorem d_M_unlike_178 : decode b_M_unlike 178 = .ok (.lmul, 1) := by decide +kernel
theorem d_M_unlike_179 : decode b_M_unlike 179 = .ok (.lload 6, 2) := by decide +kernel
theorem d_M_unlike_181 : decode b_M_unlike 181 = .ok (.lmul, 1) := by decide +kernel
theorem d_M_unlike_182 : decode b_M_unlike 182 = .ok (.lsub, 1) := by decide +kernel
theorem d_M_unlike_183 : decode b_M_unlike 183 = .ok (.lstore 8, 2) := by decide +kernel
theorem d_M_unlike_185 : decode b_M_unlike 185 = .ok (.lload 8, 2) := by decide +kernel
theorem d_M_unlike_187 : decode b_M_unlike 187 = .ok (.lconst 0, 1) := by decide +kernel
theorem d_M_unlike_188 : decode b_M_unlike 188 = .ok (.lcmp, 1) := by decide +kernel
theorem d_M_unlike_189 : decode b_M_unlike 189 = .ok (.ifCond .ne 7, 3) := by decide +kernel
theorem d_M_unlike_192 : decode b_M_unlike 192 = .ok (.iconst 2, 1) := by decide +kernel
theorem d_M_unlike_193 : decode b_M_unlike 193 = .ok (.goto 4, 3) := by decide +kernel
theorem d_M_unlike_196 : decode b_M_unlike 196 = .ok (.iconst 3, 1) := by decide +kernel
theorem d_M_unlike_197 : decode b_M_unlike 197 = .ok (.ireturn, 1) := by decide +kernel
theorem d_M_at_0 : decode b_M_at 0 = .ok (.aload_n 0, 1) := by decide +kernel
theorem d_M_at_1 : decode b_M_at 1 = .ok (.iconst 0, 1) := by decide +kernel
theorem d_M_at_2 : decode b_M_at 2 = .ok (.putfield 45, 3) := by decide +kernel
theorem d_M_at_5 : decode b_M_at 5 = .ok (.aload_n 0, 1) := by decide +kernel
theorem d_M_at_6 : decode b_M_at 6 = .ok (.iload_n 1, 1) := by decide +kernel
theorem d_M_at_7 : decode b_M_at 7 = .ok (.iload_n 2, 1) := by decide +kernel
theorem d_M_at_8 : decode b_M_at 8 = .ok (.iload_n 3, 1) := by decide +kernel
theorem d_M_at_9 : decode b_M_at 9 = .ok (.iload 4, 2) := by decide +kernel
theorem d_M_at_11 : decode b_M_at 11 = .ok (.invokevirtual 132, 3) := by decide +kernel
theorem d_M_at_14 : decode b_M_at 14 = .ok (.ifCond .ne 6, 3) := by decide +kernel
theorem d_M_at_17 : decode b_M_at 17 = .ok (.bipush (-2), 2) := by decide +kernel
theorem d_M_at_19 : decode b_M_at 19 = .ok (.ireturn, 1) := by decide +kernel
theorem d_M_at_20 : decode b_M_at 20 = .ok (.lconst 0, 1) := by decide +kernel
theorem d_M_at_21 : decode b_M_at 21 = .ok (.lstore 5, 2) := by decide +kernel
theorem d_M_at_23 : decode b_M_at 23 = .ok (.iconst 0, 1) := by decide +kernel
theorem d_M_at_24 : decode b_M_at 24 = .ok (.istore 7, 2) := by decide +kernel
theorem d_M_at_26 : decode b_M_at 26 = .ok (.iload 7, 2) := by decide +kernel
theorem d_M_at_28 : decode b_M_at 28 = .ok (.aload_n 0, 1) := by decide +kernel
theorem d_M_at_29 : decode b_M_at 29 = .ok (.getfield 7, 3) := by decide +kernel
theorem d_M_at_32 : decode b_M_at 32 = .ok (.if_icmp .gt 28, 3) := by decide +kernel
theorem d_M_at_35 : decode b_M_at 35 = .ok (.lload 5, 2) := by decide +kernel
theorem d_M_at_37 : decode b_M_at 37 = .ok (.aload_n 0, 1) := by decide +kernel
theorem d_M_at_38 : decode b_M_at 38 = .ok (.iload 7, 2) := by decide +kernel
theorem d_M_at_40 : decode b_M_at 40 = .ok (.invokevirtual 136, 3) := by decide +kernel
theorem d_M_at_43 : decode b_M_at 43 = .ok (.aload_n 0, 1) := by decide +kernel
theorem d_M_at_44 : decode b_M_at 44 = .ok (.getfield 33, 3) := by decide +kernel
theorem d_M_at_47 : decode b_M_at 47 = .ok (.iload 7, 2) := by decide +kernel
theorem d_M_at_49 : decode b_M_at 49 = .ok (.laload, 1) := by decide +kernel
theorem d_M_at_50 : decode b_M_at 50 = .ok (.lmul, 1) := by decide +kernel
theorem d_M_at_51 : decode b_M_at 51 = .ok (.ladd, 1) := by decide +kernel
theorem d_M_at_52 : decode b_M_at 52 = .ok (.lstore 5, 2) := by decide +kernel
theorem d_M_at_54 : decode b_M_at 54 = .ok (.iinc 7 1, 3) := by decide +kernel
theorem d_M_at_57 : decode b_M_at 57 = .ok (.goto (-31), 3) := by decide +kernel
theorem d_M_at_60 : decode b_M_at 60 = .ok (.lload 5, 2) := by decide +kernel
theorem d_M_at_62 : decode b_M_at 62 = .ok (.lconst 0, 1) := by decide +kernel
theorem d_M_at_63 : decode b_M_at 63 = .ok (.lcmp, 1) := by decide +kernel
theorem d_M_at_64 : decode b_M_at 64 = .ok (.ifCond .le 7, 3) := by decide +kernel
theorem d_M_at_67 : decode b_M_at 67 = .ok (.iconst 2, 1) := by decide +kernel
theorem d_M_at_68 : decode b_M_at 68 = .ok (.goto 15, 3) := by decide +kernel
theorem d_M_at_71 : decode b_M_at 71 = .ok (.lload 5, 2) := by decide +kernel
theorem d_M_at_73 : decode b_M_at 73 = .ok (.lconst 0, 1) := by decide +kernel
theorem d_M_at_74 : decode b_M_at 74 = .ok (.lcmp, 1) := by decide +kernel
theorem d_M_at_75 : decode b_M_at 75 = .ok (.ifCond .ne 7, 3) := by decide +kernel
theorem d_M_at_78 : decode b_M_at 78 = .ok (.iconst 1, 1) := by decide +kernel
theorem d_M_at_79 : decode b_M_at 79 = .ok (.goto 4, 3) := by decide +kernel
theorem d_M_at_82 : decode b_M_at 82 = .ok (.iconst 0, 1) := by decide +kernel
theorem d_M_at_83 : decode b_M_at 83 = .ok (.ireturn, 1) := by decide +kernel
theorem d_M_isPoint_0 : decode b_M_isPoint 0 = .ok (.iload 4, 2) := by decide +kernel
theorem d_M_isPoint_2 : decode b_M_isPoint 2 = .ok (.i2l, 1) := by decide +kernel
theorem d_M_isPoint_3 : decode b_M_isPoint 3 = .ok (.iconst 1, 1) := by decide +kernel
theorem d_M_isPoint_4 : decode b_M_isPoint 4 = .ok (.bipush 100, 2) := by decide +kernel
theorem d_M_isPoint_6 : decode b_M_isPoint 6 = .ok (.invokestatic 52, 3) := by decide +kernel
theorem d_M_isPoint_9 : decode b_M_isPoint 9 = .ok (.ifCond .eq 57, 3) := by decide +kernel
theorem d_M_isPoint_12 : decode b_M_isPoint 12 = .ok (.iload_n 1, 1) := by decide +kernel
theorem d_M_isPoint_13 : decode b_M_isPoint 13 = .ok (.i2l, 1) := by decide +kernel
theorem d_M_isPoint_14 : decode b_M_isPoint 14 = .ok (.sipush (-1000), 3) := by decide +kernel
theorem d_M_isPoint_17 : decode b_M_isPoint 17 = .ok (.sipush 1000, 3) := by decide +kernel
theorem d_M_isPoint_20 : decode b_M_isPoint 20 = .ok (.invokestatic 52, 3) := by decide +kernel
theorem d_M_isPoint_23 : decode b_M_isPoint 23 = .ok (.ifCond .eq 43, 3) := by decide +kernel
theorem d_M_isPoint_26 : decode b_M_isPoint 26 = .ok (.iload_n 2, 1) := by decide +kernel
theorem d_M_isPoint_27 : decode b_M_isPoint 27 = .ok (.i2l, 1) := by decide +kernel
theorem d_M_isPoint_28 : decode b_M_isPoint 28 = .ok (.sipush (-1000), 3) := by decide +kernel
theorem d_M_isPoint_31 : decode b_M_isPoint 31 = .ok (.sipush 1000, 3) := by decide +kernel
theorem d_M_isPoint_34 : decode b_M_isPoint 34 = .ok (.invokestatic 52, 3) := by decide +kernel
theorem d_M_isPoint_37 : decode b_M_isPoint 37 = .ok (.ifCond .eq 29, 3) := by decide +kernel
theorem d_M_isPoint_40 : decode b_M_isPoint 40 = .ok (.aload_n 0, 1) := by decide +kernel
theorem d_M_isPoint_41 : decode b_M_isPoint 41 = .ok (.getfield 7, 3) := by decide +kernel
theorem d_M_isPoint_44 : decode b_M_isPoint 44 = .ok (.iconst 2, 1) := by decide +kernel
theorem d_M_isPoint_45 : decode b_M_isPoint 45 = .ok (.if_icmp .eq 17, 3) := by decide +kernel
theorem d_M_isPoint_48 : decode b_M_isPoint 48 = .ok (.iload_n 3, 1) := by decide +kernel
theorem d_M_isPoint_49 : decode b_M_isPoint 49 = .ok (.i2l, 1) := by decide +kernel
theorem d_M_isPoint_50 : decode b_M_isPoint 50 = .ok (.sipush (-1000), 3) := by decide +kernel
theorem d_M_isPoint_53 : decode b_M_isPoint 53 = .ok (.sipush 1000, 3) := by decide +kernel
theorem d_M_isPoint_56 : decode b_M_isPoint 56 = .ok (.invokestatic 52, 3) := by decide +kernel
theorem d_M_isPoint_59 : decode b_M_isPoint 59 = .ok (.ifCond .eq 7, 3) := by decide +kernel
theorem d_M_isPoint_62 : decode b_M_isPoint 62 = .ok (.iconst 1, 1) := by decide +kernel
theorem d_M_isPoint_63 : decode b_M_isPoint 63 = .ok (.goto 4, 3) := by decide +kernel
theorem d_M_isPoint_66 : decode b_M_isPoint 66 = .ok (.iconst 0, 1) := by decide +kernel
theorem d_M_isPoint_67 : decode b_M_isPoint 67 = .ok (.istore 5, 2) := by decide +kernel
theorem d_M_isPoint_69 : decode b_M_isPoint 69 = .ok (.aload_n 0, 1) := by decide +kernel
theorem d_M_isPoint_70 : decode b_M_isPoint 70 = .ok (.getfield 33, 3) := by decide +kernel
theorem d_M_isPoint_73 : decode b_M_isPoint 73 = .ok (.iconst 0, 1) := by decide +kernel
theorem d_M_isPoint_74 : decode b_M_isPoint 74 = .ok (.iload 4, 2) := by decide +kernel
theorem d_M_isPoint_76 : decode b_M_isPoint 76 = .ok (.i2l, 1) := by decide +kernel
theorem d_M_isPoint_77 : decode b_M_isPoint 77 = .ok (.lastore, 1) := by decide +kernel
theorem d_M_isPoint_78 : decode b_M_isPoint 78 = .ok (.aload_n 0, 1) := by decide +kernel
theorem d_M_isPoint_79 : decode b_M_isPoint 79 = .ok (.getfield 33, 3) := by decide +kernel
theorem d_M_isPoint_82 : decode b_M_isPoint 82 = .ok (.iconst 1, 1) := by decide +kernel
theorem d_M_isPoint_83 : decode b_M_isPoint 83 = .ok (.iload_n 1, 1) := by decide +kernel
theorem d_M_isPoint_84 : decode b_M_isPoint 84 = .ok (.i2l, 1) := by decide +kernel
theorem d_M_isPoint_85 : decode b_M_isPoint 85 = .ok (.lastore, 1) := by decide +kernel
theorem d_M_isPoint_86 : decode b_M_isPoint 86 = .ok (.aload_n 0, 1) := by decide +kernel
theorem d_M_isPoint_87 : decode b_M_isPoint 87 = .ok (.getfield 33, 3) := by decide +kernel
theorem d_M_isPoint_90 : decode b_M_isPoint 90 = .ok (.iconst 2, 1) := by decide +kernel
theorem d_M_isPoint_91 : decode b_M_isPoint 91 = .ok (.iload_n 2, 1) := by decide +kernel
theorem d_M_isPoint_92 : decode b_M_isPoint 92 = .ok (.i2l, 1) := by decide +kernel
theorem d_M_isPoint_93 : decode b_M_isPoint 93 = .ok (.lastore, 1) := by decide +kernel
theorem d_M_isPoint_94 : decode b_M_isPoint 94 = .ok (.aload_n 0, 1) := by decide +kernel
theorem d_M_isPoint_95 : decode b_M_isPoint 95 = .ok (.getfield 33, 3) := by decide +kernel
theorem d_M_isPoint_98 : decode b_M_isPoint 98 = .ok (.iconst 3, 1) := by decide +kernel
theorem d_M_isPoint_99 : decode b_M_isPoint 99 = .ok (.aload_n 0, 1) := by decide +kernel
theorem d_M_isPoint_100 : decode b_M_isPoint 100 = .ok (.getfield 7, 3) := by decide +kernel
theorem d_M_isPoint_103 : decode b_M_isPoint 103 = .ok (.iconst 2, 1) := by decide +kernel
theorem d_M_isPoint_104 : decode b_M_isPoint 104 = .ok (.if_icmp .ne 7, 3) := by decide +kernel
theorem d_M_isPoint_107 : decode b_M_isPoint 107 = .ok (.lconst 0, 1) := by decide +kernel
theorem d_M_isPoint_108 : decode b_M_isPoint 108 = .ok (.goto 5, 3) := by decide +kernel
theorem d_M_isPoint_111 : decode b_M_isPoint 111 = .ok (.iload_n 3, 1) := by decide +kernel
theorem d_M_isPoint_112 : decode b_M_isPoint 112 = .ok (.i2l, 1) := by decide +kernel
theorem d_M_isPoint_113 : decode b_M_isPoint 113 = .ok (.lastore, 1) := by decide +kernel
theorem d_M_isPoint_114 : decode b_M_isPoint 114 = .ok (.iload 5, 2) := by decide +kernel
theorem d_M_isPoint_116 : decode b_M_isPoint 116 = .ok (.ireturn, 1) := by decide +kernel
theorem d_M_polarAt_0 : decode b_M_polarAt 0 = .ok (.lconst 0, 1) := by decide +kernel
theorem d_M_polarAt_1 : decode b_M_polarAt 1 = .ok (.lstore_n 2, 1) := by decide +kernel
theorem d_M_polarAt_2 : decode b_M_polarAt 2 = .ok (.iconst 0, 1) := by decide +kernel
theorem d_M_polarAt_3 : decode b_M_polarAt 3 = .ok (.istore 4, 2) := by decide +kernel
theorem d_M_polarAt_5 : decode b_M_polarAt 5 = .ok (.iload 4, 2) := by decide +kernel
theorem d_M_polarAt_7 : decode b_M_polarAt 7 = .ok (.aload_n 0, 1) := by decide +kernel
theorem d_M_polarAt_8 : decode b_M_polarAt 8 = .ok (.getfield 7, 3) := by decide +kernel
theorem d_M_polarAt_11 : decode b_M_polarAt 11 = .ok (.if_icmp .gt 32, 3) := by decide +kernel
theorem d_M_polarAt_14 : decode b_M_polarAt 14 = .ok (.lload_n 2, 1) := by decide +kernel
theorem d_M_polarAt_15 : decode b_M_polarAt 15 = .ok (.aload_n 0, 1) := by decide +kernel
theorem d_M_polarAt_16 : decode b_M_polarAt 16 = .ok (.getfield 13, 3) := by decide +kernel
theorem d_M_polarAt_19 : decode b_M_polarAt 19 = .ok (.iconst 4, 1) := by decide +kernel
theorem d_M_polarAt_20 : decode b_M_polarAt 20 = .ok (.iload_n 1, 1) := by decide +kernel
theorem d_M_polarAt_21 : decode b_M_polarAt 21 = .ok (.imul, 1) := by decide +kernel
theorem d_M_polarAt_22 : decode b_M_polarAt 22 = .ok (.iload 4, 2) := by decide +kernel
theorem d_M_polarAt_24 : decode b_M_polarAt 24 = .ok (.iadd, 1) := by decide +kernel
theorem d_M_polarAt_25 : decode b_M_polarAt 25 = .ok (.iaload, 1) := by decide +kernel
theorem d_M_polarAt_26 : decode b_M_polarAt 26 = .ok (.i2l, 1) := by decide +kernel
theorem d_M_polarAt_27 : decode b_M_polarAt 27 = .ok (.aload_n 0, 1) := by decide +kernel
theorem d_M_polarAt_28 : decode b_M_polarAt 28 = .ok (.getfield 33, 3) := by decide +kernel
theorem d_M_polarAt_31 : decode b_M_polarAt 31 = .ok (.iload 4, 2) := by decide +kernel
theorem d_M_polarAt_33 : decode b_M_polarAt 33 = .ok (.laload, 1) := by decide +kernel
theorem d_M_polarAt_34 : decode b_M_polarAt 34 = .ok (.lmul, 1) := by decide +kernel
theorem d_M_polarAt_35 : decode b_M_polarAt 35 = .ok (.ladd, 1) := by decide +kernel
theorem d_M_polarAt_36 : decode b_M_polarAt 36 = .ok (.lstore_n 2, 1) := by decide +kernel
theorem d_M_polarAt_37 : decode b_M_polarAt 37 = .ok (.iinc 4 1, 3) := by decide +kernel
theorem d_M_polarAt_40 : decode b_M_polarAt 40 = .ok (.goto (-35), 3) := by decide +kernel
theorem d_M_polarAt_43 : decode b_M_polarAt 43 = .ok (.lload_n 2, 1) := by decide +kernel
theorem d_M_polarAt_44 : decode b_M_polarAt 44 = .ok (.lreturn, 1) := by decide +kernel
theorem d_M_polar_0 : decode b_M_polar 0 = .ok (.aload_n 0, 1) := by decide +kernel
theorem d_M_polar_1 : decode b_M_polar 1 = .ok (.iconst 0, 1) := by decide +kernel
theorem d_M_polar_2 : decode b_M_polar 2 = .ok (.putfield 45, 3) := by decide +kernel
theorem d_M_polar_5 : decode b_M_polar 5 = .ok (.iload 5, 2) := by decide +kernel
theorem d_M_polar_7 : decode b_M_polar 7 = .ok (.i2l, 1) := by decide +kernel
theorem d_M_polar_8 : decode b_M_polar 8 = .ok (.iconst 0, 1) := by decide +kernel
theorem d_M_polar_9 : decode b_M_polar 9 = .ok (.aload_n 0, 1) := by decide +kernel
theorem d_M_polar_10 : decode b_M_polar 10 = .ok (.getfield 7, 3) := by decide +kernel
theorem d_M_polar_13 : decode b_M_polar 13 = .ok (.invokestatic 52, 3) := by decide +kernel
theorem d_M_polar_16 : decode b_M_polar 16 = .ok (.ifCond .eq 15, 3) := by decide +kernel
theorem d_M_polar_19 : decode b_M_polar 19 = .ok (.aload_n 0, 1) := by decide +kernel
theorem d_M_polar_20 : decode b_M_polar 20 = .ok (.iload_n 1, 1) := by decide +kernel
theorem d_M_polar_21 : decode b_M_polar 21 = .ok (.iload_n 2, 1) := by decide +kernel
theorem d_M_polar_22 : decode b_M_polar 22 = .ok (.iload_n 3, 1) := by decide +kernel
theorem d_M_polar_23 : decode b_M_polar 23 = .ok (.iload 4, 2) := by decide +kernel
theorem d_M_polar_25 : decode b_M_polar 25 = .ok (.invokevirtual 132, 3) := by decide +kernel
theorem d_M_polar_28 : decode b_M_polar 28 = .ok (.ifCond .ne 7, 3) := by decide +kernel
theorem d_M_polar_31 : decode b_M_polar 31 = .ok (.ldc2_w 56, 3) := by decide +kernel
theorem d_M_polar_34 : decode b_M_polar 34 = .ok (.lreturn, 1) := by decide +kernel
theorem d_M_polar_35 : decode b_M_polar 35 = .ok (.iconst 0, 1) := by decide +kernel
theorem d_M_polar_36 : decode b_M_polar 36 = .ok (.istore 6, 2) := by decide +kernel
theorem d_M_polar_38 : decode b_M_polar 38 = .ok (.iload 6, 2) := by decide +kernel
theorem d_M_polar_40 : decode b_M_polar 40 = .ok (.aload_n 0, 1) := by decide +kernel
theorem d_M_polar_41 : decode b_M_polar 41 = .ok (.getfield 7, 3) := by decide +kernel
theorem d_M_polar_44 : decode b_M_polar 44 = .ok (.if_icmp .gt 22, 3) := by decide +kernel
theorem d_M_polar_47 : decode b_M_polar 47 = .ok (.aload_n 0, 1) := by decide +kernel
theorem d_M_polar_48 : decode b_M_polar 48 = .ok (.getfield 36, 3) := by decide +kernel
theorem d_M_polar_51 : decode b_M_polar 51 = .ok (.iload 6, 2) := by decide +kernel
theorem d_M_polar_53 : decode b_M_polar 53 = .ok (.aload_n 0, 1) := by decide +kernel
theorem d_M_polar_54 : decode b_M_polar 54 = .ok (.iload 6, 2) := by decide +kernel
theorem d_M_polar_56 : decode b_M_polar 56 = .ok (.invokevirtual 136, 3) := by decide +kernel
theorem d_M_polar_59 : decode b_M_polar 59 = .ok (.lastore, 1) := by decide +kernel
theorem d_M_polar_60 : decode b_M_polar 60 = .ok (.iinc 6 1, 3) := by decide +kernel
theorem d_M_polar_63 : decode b_M_polar 63 = .ok (.goto (-25), 3) := by decide +kernel
theorem d_M_polar_66 : decode b_M_polar 66 = .ok (.aload_n 0, 1) := by decide +kernel
theorem d_M_polar_67 : decode b_M_polar 67 = .ok (.aload_n 0, 1) := by decide +kernel
theorem d_M_polar_68 : decode b_M_polar 68 = .ok (.getfield 7, 3) := by decide +kernel
theorem d_M_polar_71 : decode b_M_polar 71 = .ok (.iconst 1, 1) := by decide +kernel
theorem d_M_polar_72 : decode b_M_polar 72 = .ok (.iadd, 1) := by decide +kernel
theorem d_M_polar_73 : decode b_M_polar 73 = .ok (.iload 5, 2) := by decide +kernel
theorem d_M_polar_75 : decode b_M_polar 75 = .ok (.invokevirtual 141, 3) := by decide +kernel
theorem d_M_polar_78 : decode b_M_polar 78 = .ok (.lreturn, 1) := by decide +kernel
theorem d_M_without_0 : decode b_M_without 0 = .ok (.lconst 0, 1) := by decide +kernel
theorem d_M_without_1 : decode b_M_without 1 = .ok (.lstore_n 3, 1) := by decide +kernel
theorem d_M_without_2 : decode b_M_without 2 = .ok (.lconst 0, 1) := by decide +kernel
theorem d_M_without_3 : decode b_M_without 3 = .ok (.lstore 5, 2) := by decide +kernel
theorem d_M_without_5 : decode b_M_without 5 = .ok (.iconst 0, 1) := by decide +kernel
theorem d_M_without_6 : decode b_M_without 6 = .ok (.istore 7, 2) := by decide +kernel
theorem d_M_without_8 : decode b_M_without 8 = .ok (.iload 7, 2) := by decide +kernel
theorem d_M_without_10 : decode b_M_without 10 = .ok (.iload_n 1, 1) := by decide +kernel
theorem d_M_without_11 : decode b_M_without 11 = .ok (.if_icmp .ge 70, 3) := by decide +kernel
theorem d_M_without_14 : decode b_M_without 14 = .ok (.lload_n 3, 1) := by decide +kernel
theorem d_M_without_15 : decode b_M_without 15 = .ok (.aload_n 0, 1) := by decide +kernel
theorem d_M_without_16 : decode b_M_without 16 = .ok (.getfield 36, 3) := by decide +kernel
theorem d_M_without_19 : decode b_M_without 19 = .ok (.iload 7, 2) := by decide +kernel
theorem d_M_without_21 : decode b_M_without 21 = .ok (.laload, 1) := by decide +kernel
theorem d_M_without_22 : decode b_M_without 22 = .ok (.invokestatic 118, 3) := by decide +kernel
theorem d_M_without_25 : decode b_M_without 25 = .ok (.lstore_n 3, 1) := by decide +kernel
theorem d_M_without_26 : decode b_M_without 26 = .ok (.lload 5, 2) := by decide +kernel
theorem d_M_without_28 : decode b_M_without 28 = .ok (.lconst 0, 1) := by decide +kernel
theorem d_M_without_29 : decode b_M_without 29 = .ok (.lcmp, 1) := by decide +kernel
theorem d_M_without_30 : decode b_M_without 30 = .ok (.ifCond .ne 41, 3) := by decide +kernel
theorem d_M_without_33 : decode b_M_without 33 = .ok (.aload_n 0, 1) := by decide +kernel
theorem d_M_without_34 : decode b_M_without 34 = .ok (.getfield 36, 3) := by decide +kernel
theorem d_M_without_37 : decode b_M_without 37 = .ok (.iload 7, 2) := by decide +kernel
theorem d_M_without_39 : decode b_M_without 39 = .ok (.laload, 1) := by decide +kernel
theorem d_M_without_40 : decode b_M_without 40 = .ok (.lconst 0, 1) := by decide +kernel
theorem d_M_without_41 : decode b_M_without 41 = .ok (.lcmp, 1) := by decide +kernel
theorem d_M_without_42 : decode b_M_without 42 = .ok (.ifCond .le 7, 3) := by decide +kernel
theorem d_M_without_45 : decode b_M_without 45 = .ok (.lconst 1, 1) := by decide +kernel
theorem d_M_without_46 : decode b_M_without 46 = .ok (.goto 27, 3) := by decide +kernel
theorem d_M_without_49 : decode b_M_without 49 = .ok (.aload_n 0, 1) := by decide +kernel
theorem d_M_without_50 : decode b_M_without 50 = .ok (.getfield 36, 3) := by decide +kernel
theorem d_M_without_53 : decode b_M_without 53 = .ok (.iload 7, 2) := by decide +kernel
theorem d_M_without_55 : decode b_M_without 55 = .ok (.laload, 1) := by decide +kernel
theorem d_M_without_56 : decode b_M_without 56 = .ok (.lconst 0, 1) := by decide +kernel
theorem d_M_without_57 : decode b_M_without 57 = .ok (.lcmp, 1) := by decide +kernel
theorem d_M_without_58 : decode b_M_without 58 = .ok (.ifCond .ge 9, 3) := by decide +kernel
theorem d_M_without_61 : decode b_M_without 61 = .ok (.ldc2_w 139, 3) := by decide +kernel
theorem d_M_without_64 : decode b_M_without 64 = .ok (.goto 9, 3) := by decide +kernel
theorem d_M_without_67 : decode b_M_without 67 = .ok (.lconst 0, 1) := by decide +kernel
theorem d_M_without_68 : decode b_M_without 68 = .ok (.goto 5, 3) := by decide +kernel
theorem d_M_without_71 : decode b_M_without 71 = .ok (.lload 5, 2) := by decide +kernel
theorem d_M_without_73 : decode b_M_without 73 = .ok (.lstore 5, 2) := by decide +kernel
theorem d_M_without_75 : decode b_M_without 75 = .ok (.iinc 7 1, 3) := by decide +kernel
theorem d_M_without_78 : decode b_M_without 78 = .ok (.goto (-70), 3) := by decide +kernel
theorem d_M_without_81 : decode b_M_without 81 = .ok (.lload_n 3, 1) := by decide +kernel
theorem d_M_without_82 : decode b_M_without 82 = .ok (.lconst 0, 1) := by decide +kernel
theorem d_M_without_83 : decode b_M_without 83 = .ok (.lcmp, 1) := by decide +kernel
theorem d_M_without_84 : decode b_M_without 84 = .ok (.ifCond .ne 9, 3) := by decide +kernel
theorem d_M_without_87 : decode b_M_without 87 = .ok (.ldc2_w 56, 3) := by decide +kernel
theorem d_M_without_90 : decode b_M_without 90 = .ok (.goto 14, 3) := by decide +kernel
theorem d_M_without_93 : decode b_M_without 93 = .ok (.lload 5, 2) := by decide +kernel
theorem d_M_without_95 : decode b_M_without 95 = .ok (.aload_n 0, 1) := by decide +kernel
theorem d_M_without_96 : decode b_M_without 96 = .ok (.getfield 36, 3) := by decide +kernel
theorem d_M_without_99 : decode b_M_without 99 = .ok (.iload_n 2, 1) := by decide +kernel
theorem d_M_without_100 : decode b_M_without 100 = .ok (.laload, 1) := by decide +kernel
theorem d_M_without_101 : decode b_M_without 101 = .ok (.lmul, 1) := by decide +kernel
theorem d_M_without_102 : decode b_M_without 102 = .ok (.lload_n 3, 1) := by decide +kernel
theorem d_M_without_103 : decode b_M_without 103 = .ok (.ldiv, 1) := by decide +kernel
theorem d_M_without_104 : decode b_M_without 104 = .ok (.lreturn, 1) := by decide +kernel
theorem d_M_touches_0 : decode b_M_touches 0 = .ok (.aload_n 0, 1) := by decide +kernel
theorem d_M_touches_1 : decode b_M_touches 1 = .ok (.iconst 0, 1) := by decide +kernel
theorem d_M_touches_2 : decode b_M_touches 2 = .ok (.putfield 45, 3) := by decide +kernel
theorem d_M_touches_5 : decode b_M_touches 5 = .ok (.iload_n 1, 1) := by decide +kernel
theorem d_M_touches_6 : decode b_M_touches 6 = .ok (.i2l, 1) := by decide +kernel
theorem d_M_touches_7 : decode b_M_touches 7 = .ok (.bipush (-20), 2) := by decide +kernel
theorem d_M_touches_9 : decode b_M_touches 9 = .ok (.bipush 20, 2) := by decide +kernel
theorem d_M_touches_11 : decode b_M_touches 11 = .ok (.invokestatic 52, 3) := by decide +kernel
theorem d_M_touches_14 : decode b_M_touches 14 = .ok (.ifCond .eq 69, 3) := by decide +kernel
theorem d_M_touches_17 : decode b_M_touches 17 = .ok (.iload_n 2, 1) := by decide +kernel
theorem d_M_touches_18 : decode b_M_touches 18 = .ok (.i2l, 1) := by decide +kernel
theorem d_M_touches_19 : decode b_M_touches 19 = .ok (.bipush (-20), 2) := by decide +kernel
theorem d_M_touches_21 : decode b_M_touches 21 = .ok (.bipush 20, 2) := by decide +kernel
theorem d_M_touches_23 : decode b_M_touches 23 = .ok (.invokestatic 52, 3) := by decide +kernel
theorem d_M_touches_26 : decode b_M_touches 26 = .ok (.ifCond .eq 57, 3) := by decide +kernel
theorem d_M_touches_29 : decode b_M_touches 29 = .ok (.iload_n 3, 1) := by decide +kernel
theorem d_M_touches_30 : decode b_M_touches 30 = .ok (.i2l, 1) := by decide +kernel
theorem d_M_touches_31 : decode b_M_touches 31 = .ok (.bipush (-20), 2) := by decide +kernel
theorem d_M_touches_33 : decode b_M_touches 33 = .ok (.bipush 20, 2) := by decide +kernel
theorem d_M_touches_35 : decode b_M_touches 35 = .ok (.invokestatic 52, 3) := by decide +kernel
theorem d_M_touches_38 : decode b_M_touches 38 = .ok (.ifCond .eq 45, 3) := by decide +kernel
theorem d_M_touches_41 : decode b_M_touches 41 = .ok (.aload_n 0, 1) := by decide +kernel
theorem d_M_touches_42 : decode b_M_touches 42 = .ok (.getfield 7, 3) := by decide +kernel
theorem d_M_touches_45 : decode b_M_touches 45 = .ok (.iconst 3, 1) := by decide +kernel
theorem d_M_touches_46 : decode b_M_touches 46 = .ok (.if_icmp .ne 16, 3) := by decide +kernel
theorem d_M_touches_49 : decode b_M_touches 49 = .ok (.iload 4, 2) := by decide +kernel
theorem d_M_touches_51 : decode b_M_touches 51 = .ok (.i2l, 1) := by decide +kernel
theorem d_M_touches_52 : decode b_M_touches 52 = .ok (.bipush (-20), 2) := by decide +kernel
theorem d_M_touches_54 : decode b_M_touches 54 = .ok (.bipush 20, 2) := by decide +kernel
theorem d_M_touches_56 : decode b_M_touches 56 = .ok (.invokestatic 52, 3) := by decide +kernel
theorem d_M_touches_59 : decode b_M_touches 59 = .ok (.ifCond .eq 24, 3) := by decide +kernel
theorem d_M_touches_62 : decode b_M_touches 62 = .ok (.iload_n 2, 1) := by decide +kernel
theorem d_M_touches_63 : decode b_M_touches 63 = .ok (.ifCond .ne 23, 3) := by decide +kernel
theorem d_M_touches_66 : decode b_M_touches 66 = .ok (.iload_n 3, 1) := by decide +kernel
theorem d_M_touches_67 : decode b_M_touches 67 = .ok (.ifCond .ne 19, 3) := by decide +kernel
theorem d_M_touches_70 : decode b_M_touches 70 = .ok (.aload_n 0, 1) := by decide +kernel
theorem d_M_touches_71 : decode b_M_touches 71 = .ok (.getfield 7, 3) := by decide +kernel
theorem d_M_touches_74 : decode b_M_touches 74 = .ok (.iconst 2, 1) := by decide +kernel
theorem d_M_touches_75 : decode b_M_touches 75 = .ok (.if_icmp .eq 8, 3) := by decide +kernel
theorem d_M_touches_78 : decode b_M_touches 78 = .ok (.iload 4, 2) := by decide +kernel
theorem d_M_touches_80 : decode b_M_touches 80 = .ok (.ifCond .ne 6, 3) := by decide +kernel
theorem d_M_touches_83 : decode b_M_touches 83 = .ok (.bipush (-2), 2) := by decide +kernel
theorem d_M_touches_85 : decode b_M_touches 85 = .ok (.ireturn, 1) := by decide +kernel
theorem d_M_touches_86 : decode b_M_touches 86 = .ok (.aload_n 0, 1) := by decide +kernel
theorem d_M_touches_87 : decode b_M_touches 87 = .ok (.iconst 1, 1) := by decide +kernel
theorem d_M_touches_88 : decode b_M_touches 88 = .ok (.invokevirtual 97, 3) := by decide +kernel
theorem d_M_touches_91 : decode b_M_touches 91 = .ok (.aload_n 0, 1) := by decide +kernel
theorem d_M_touches_92 : decode b_M_touches 92 = .ok (.aload_n 0, 1) := by decide +kernel
theorem d_M_touches_93 : decode b_M_touches 93 = .ok (.getfield 58, 3) := by decide +kernel
theorem d_M_touches_96 : decode b_M_touches 96 = .ok (.invokevirtual 82, 3) := by decide +kernel
theorem d_M_touches_99 : decode b_M_touches 99 = .ok (.lconst 0, 1) := by decide +kernel
theorem d_M_touches_100 : decode b_M_touches 100 = .ok (.lcmp, 1) := by decide +kernel
theorem d_M_touches_101 : decode b_M_touches 101 = .ok (.ifCond .ne 6, 3) := by decide +kernel
theorem d_M_touches_104 : decode b_M_touches 104 = .ok (.bipush (-3), 2) := by decide +kernel
theorem d_M_touches_106 : decode b_M_touches 106 = .ok (.ireturn, 1) := by decide +kernel
theorem d_M_touches_107 : decode b_M_touches 107 = .ok (.aload_n 0, 1) := by decide +kernel
theorem d_M_touches_108 : decode b_M_touches 108 = .ok (.getfield 33, 3) := by decide +kernel
theorem d_M_touches_111 : decode b_M_touches 111 = .ok (.iconst 0, 1) := by decide +kernel
theorem d_M_touches_112 : decode b_M_touches 112 = .ok (.iload_n 1, 1) := by decide +kernel
theorem d_M_touches_113 : decode b_M_touches 113 = .ok (.i2l, 1) := by decide +kernel
theorem d_M_touches_114 : decode b_M_touches 114 = .ok (.lastore, 1) := by decide +kernel
theorem d_M_touches_115 : decode b_M_touches 115 = .ok (.aload_n 0, 1) := by decide +kernel
theorem d_M_touches_116 : decode b_M_touches 116 = .ok (.getfield 33, 3) := by decide +kernel
theorem d_M_touches_119 : decode b_M_touches 119 = .ok (.iconst 1, 1) := by decide +kernel
theorem d_M_touches_120 : decode b_M_touches 120 = .ok (.iload_n 2, 1) := by decide +kernel
theorem d_M_touches_121 : decode b_M_touches 121 = .ok (.i2l, 1) := by decide +kernel
theorem d_M_touches_122 : decode b_M_touches 122 = .ok (.lastore, 1) := by decide +kernel
theorem d_M_touches_123 : decode b_M_touches 123 = .ok (.aload_n 0, 1) := by decide +kernel
theorem d_M_touches_124 : decode b_M_touches 124 = .ok (.getfield 33, 3) := by decide +kernel
theorem d_M_touches_127 : decode b_M_touches 127 = .ok (.iconst 2, 1) := by decide +kernel
theorem d_M_touches_128 : decode b_M_touches 128 = .ok (.iload_n 3, 1) := by decide +kernel
theorem d_M_touches_129 : decode b_M_touches 129 = .ok (.i2l, 1) := by decide +kernel
theorem d_M_touches_130 : decode b_M_touches 130 = .ok (.lastore, 1) := by decide +kernel
theorem d_M_touches_131 : decode b_M_touches 131 = .ok (.aload_n 0, 1) := by decide +kernel
theorem d_M_touches_132 : decode b_M_touches 132 = .ok (.getfield 33, 3) := by decide +kernel
theorem d_M_touches_135 : decode b_M_touches 135 = .ok (.iconst 3, 1) := by decide +kernel
theorem d_M_touches_136 : decode b_M_touches 136 = .ok (.aload_n 0, 1) := by decide +kernel
theorem d_M_touches_137 : decode b_M_touches 137 = .ok (.getfield 7, 3) := by decide +kernel
theorem d_M_touches_140 : decode b_M_touches 140 = .ok (.iconst 2, 1) := by decide +kernel
theorem d_M_touches_141 : decode b_M_touches 141 = .ok (.if_icmp .ne 7, 3) := by decide +kernel
theorem d_M_touches_144 : decode b_M_touches 144 = .ok (.lconst 0, 1) := by decide +kernel
theorem d_M_touches_145 : decode b_M_touches 145 = .ok (.goto 6, 3) := by decide +kernel
theorem d_M_touches_148 : decode b_M_touches 148 = .ok (.iload 4, 2) := by decide +kernel
theorem d_M_touches_150 : decode b_M_touches 150 = .ok (.i2l, 1) := by decide +kernel
theorem d_M_touches_151 : decode b_M_touches 151 = .ok (.lastore, 1) := by decide +kernel
theorem d_M_touches_152 : decode b_M_touches 152 = .ok (.lconst 0, 1) := by decide +kernel
theorem d_M_touches_153 : decode b_M_touches 153 = .ok (.lstore 5, 2) := by decide +kernel
theorem d_M_touches_155 : decode b_M_touches 155 = .ok (.iconst 0, 1) := by decide +kernel
theorem d_M_touches_156 : decode b_M_touches 156 = .ok (.istore 7, 2) := by decide +kernel
theorem d_M_touches_158 : decode b_M_touches 158 = .ok (.iload 7, 2) := by decide +kernel
theorem d_M_touches_160 : decode b_M_touches 160 = .ok (.aload_n 0, 1) := by decide +kernel
theorem d_M_touches_161 : decode b_M_touches 161 = .ok (.getfield 7, 3) := by decide +kernel
theorem d_M_touches_164 : decode b_M_touches 164 = .ok (.if_icmp .gt 72, 3) := by decide +kernel
theorem d_M_touches_167 : decode b_M_touches 167 = .ok (.aload_n 0, 1) := by decide +kernel
theorem d_M_touches_168 : decode b_M_touches 168 = .ok (.iconst 1, 1) := by decide +kernel
theorem d_M_touches_169 : decode b_M_touches 169 = .ok (.invokevirtual 97, 3) := by decide +kernel
theorem d_M_touches_172 : decode b_M_touches 172 = .ok (.iconst 0, 1) := by decide +kernel
theorem d_M_touches_173 : decode b_M_touches 173 = .ok (.istore 8, 2) := by decide +kernel
theorem d_M_touches_175 : decode b_M_touches 175 = .ok (.iload 8, 2) := by decide +kernel
theorem d_M_touches_177 : decode b_M_touches 177 = .ok (.aload_n 0, 1) := by decide +kernel
theorem d_M_touches_178 : decode b_M_touches 178 = .ok (.getfield 7, 3) := by decide +kernel
theorem d_M_touches_181 : decode b_M_touches 181 = .ok (.if_icmp .gt 28, 3) := by decide +kernel
theorem d_M_touches_184 : decode b_M_touches 184 = .ok (.aload_n 0, 1) := by decide +kernel
theorem d_M_touches_185 : decode b_M_touches 185 = .ok (.getfield 20, 3) := by decide +kernel
theorem d_M_touches_188 : decode b_M_touches 188 = .ok (.iconst 4, 1) := by decide +kernel
theorem d_M_touches_189 : decode b_M_touches 189 = .ok (.iload 8, 2) := by decide +kernel
theorem d_M_touches_191 : decode b_M_touches 191 = .ok (.imul, 1) := by decide +kernel
theorem d_M_touches_192 : decode b_M_touches 192 = .ok (.iload 7, 2) := by decide +kernel
theorem d_M_touches_194 : decode b_M_touches 194 = .ok (.iadd, 1) := by decide +kernel
theorem d_M_touches_195 : decode b_M_touches 195 = .ok (.aload_n 0, 1) := by decide +kernel
theorem d_M_touches_196 : decode b_M_touches 196 = .ok (.getfield 33, 3) := by decide +kernel
theorem d_M_touches_199 : decode b_M_touches 199 = .ok (.iload 8, 2) := by decide +kernel
theorem d_M_touches_201 : decode b_M_touches 201 = .ok (.laload, 1) := by decide +kernel
theorem d_M_touches_202 : decode b_M_touches 202 = .ok (.lastore, 1) := by decide +kernel
theorem d_M_touches_203 : decode b_M_touches 203 = .ok (.iinc 8 1, 3) := by decide +kernel
theorem d_M_touches_206 : decode b_M_touches 206 = .ok (.goto (-31), 3) := by decide +kernel
theorem d_M_touches_209 : decode b_M_touches 209 = .ok (.lload 5, 2) := by decide +kernel
theorem d_M_touches_211 : decode b_M_touches 211 = .ok (.aload_n 0, 1) := by decide +kernel
theorem d_M_touches_212 : decode b_M_touches 212 = .ok (.getfield 33, 3) := by decide +kernel
theorem d_M_touches_215 : decode b_M_touches 215 = .ok (.iload 7, 2) := by decide +kernel
theorem d_M_touches_217 : decode b_M_touches 217 = .ok (.laload, 1) := by decide +kernel
theorem d_M_touches_218 : decode b_M_touches 218 = .ok (.aload_n 0, 1) := by decide +kernel
theorem d_M_touches_219 : decode b_M_touches 219 = .ok (.aload_n 0, 1) := by decide +kernel
theorem d_M_touches_220 : decode b_M_touches 220 = .ok (.getfield 58, 3) := by decide +kernel
theorem d_M_touches_223 : decode b_M_touches 223 = .ok (.invokevirtual 82, 3) := by decide +kernel
theorem d_M_touches_226 : decode b_M_touches 226 = .ok (.lmul, 1) := by decide +kernel
theorem d_M_touches_227 : decode b_M_touches 227 = .ok (.ladd, 1) := by decide +kernel
theorem d_M_touches_228 : decode b_M_touches 228 = .ok (.lstore 5, 2) := by decide +kernel
theorem d_M_touches_230 : decode b_M_touches 230 = .ok (.iinc 7 1, 3) := by decide +kernel
theorem d_M_touches_233 : decode b_M_touches 233 = .ok (.goto (-75), 3) := by decide +kernel
theorem d_M_touches_236 : decode b_M_touches 236 = .ok (.lload 5, 2) := by decide +kernel
theorem d_M_touches_238 : decode b_M_touches 238 = .ok (.lconst 0, 1) := by decide +kernel
theorem d_M_touches_239 : decode b_M_touches 239 = .ok (.lcmp, 1) := by decide +kernel
theorem d_M_touches_240 : decode b_M_touches 240 = .ok (.ifCond .ne 7, 3) := by decide +kernel
theorem d_M_touches_243 : decode b_M_touches 243 = .ok (.iconst 1, 1) := by decide +kernel
theorem d_M_touches_244 : decode b_M_touches 244 = .ok (.goto 4, 3) := by decide +kernel
theorem d_M_touches_247 : decode b_M_touches 247 = .ok (.iconst 0, 1) := by decide +kernel
theorem d_M_touches_248 : decode b_M_touches 248 = .ok (.ireturn, 1) := by decide +kernel
theorem d_M_section_0 : decode b_M_section 0 = .ok (.aload_n 0, 1) := by decide +kernel
theorem d_M_section_1 : decode b_M_section 1 = .ok (.iconst 0, 1) := by decide +kernel
theorem d_M_section_2 : decode b_M_section 2 = .ok (.putfield 45, 3) := by decide +kernel
theorem d_M_section_5 : decode b_M_section 5 = .ok (.aload_n 0, 1) := by decide +kernel
theorem d_M_section_6 : decode b_M_section 6 = .ok (.getfield 7, 3) := by decide +kernel
theorem d_M_section_9 : decode b_M_section 9 = .ok (.iconst 2, 1) := by decide +kernel
theorem d_M_section_10 : decode b_M_section 10 = .ok (.if_icmp .ne 6, 3) := by decide +kernel
theorem d_M_section_13 : decode b_M_section 13 = .ok (.bipush (-3), 2) := by decide +kernel
theorem d_M_section_15 : decode b_M_section 15 = .ok (.ireturn, 1) := by decide +kernel
theorem d_M_section_16 : decode b_M_section 16 = .ok (.iload_n 1, 1) := by decide +kernel
theorem d_M_section_17 : decode b_M_section 17 = .ok (.i2l, 1) := by decide +kernel
theorem d_M_section_18 : decode b_M_section 18 = .ok (.bipush (-10), 2) := by decide +kernel
theorem d_M_section_20 : decode b_M_section 20 = .ok (.bipush 10, 2) := by decide +kernel
theorem d_M_section_22 : decode b_M_section 22 = .ok (.invokestatic 52, 3) := by decide +kernel
theorem d_M_section_25 : decode b_M_section 25 = .ok (.ifCond .eq 52, 3) := by decide +kernel
theorem d_M_section_28 : decode b_M_section 28 = .ok (.iload_n 2, 1) := by decide +kernel
theorem d_M_section_29 : decode b_M_section 29 = .ok (.i2l, 1) := by decide +kernel
theorem d_M_section_30 : decode b_M_section 30 = .ok (.bipush (-10), 2) := by decide +kernel
theorem d_M_section_32 : decode b_M_section 32 = .ok (.bipush 10, 2) := by decide +kernel
theorem d_M_section_34 : decode b_M_section 34 = .ok (.invokestatic 52, 3) := by decide +kernel
theorem d_M_section_37 : decode b_M_section 37 = .ok (.ifCond .eq 40, 3) := by decide +kernel
theorem d_M_section_40 : decode b_M_section 40 = .ok (.iload_n 3, 1) := by decide +kernel
theorem d_M_section_41 : decode b_M_section 41 = .ok (.i2l, 1) := by decide +kernel
theorem d_M_section_42 : decode b_M_section 42 = .ok (.bipush (-10), 2) := by decide +kernel
theorem d_M_section_44 : decode b_M_section 44 = .ok (.bipush 10, 2) := by decide +kernel
theorem d_M_section_46 : decode b_M_section 46 = .ok (.invokestatic 52, 3) := by decide +kernel
theorem d_M_section_49 : decode b_M_section 49 = .ok (.ifCond .eq 28, 3) := by decide +kernel
theorem d_M_section_52 : decode b_M_section 52 = .ok (.iload 4, 2) := by decide +kernel
theorem d_M_section_54 : decode b_M_section 54 = .ok (.i2l, 1) := by decide +kernel
theorem d_M_section_55 : decode b_M_section 55 = .ok (.bipush (-10), 2) := by decide +kernel
theorem d_M_section_57 : decode b_M_section 57 = .ok (.bipush 10, 2) := by decide +kernel
theorem d_M_section_59 : decode b_M_section 59 = .ok (.invokestatic 52, 3) := by decide +kernel
theorem d_M_section_62 : decode b_M_section 62 = .ok (.ifCond .eq 15, 3) := by decide +kernel
theorem d_M_section_65 : decode b_M_section 65 = .ok (.iload_n 1, 1) := by decide +kernel
theorem d_M_section_66 : decode b_M_section 66 = .ok (.ifCond .ne 14, 3) := by decide +kernel
theorem d_M_section_69 : decode b_M_section 69 = .ok (.iload_n 2, 1) := by decide +kernel
theorem d_M_section_70 : decode b_M_section 70 = .ok (.ifCond .ne 10, 3) := by decide +kernel
theorem d_M_section_73 : decode b_M_section 73 = .ok (.iload_n 3, 1) := by decide +kernel
theorem d_M_section_74 : decode b_M_section 74 = .ok (.ifCond .ne 6, 3) := by decide +kernel
theorem d_M_section_77 : decode b_M_section 77 = .ok (.bipush (-2), 2) := by decide +kernel
theorem d_M_section_79 : decode b_M_section 79 = .ok (.ireturn, 1) := by decide +kernel
theorem d_M_section_80 : decode b_M_section 80 = .ok (.aload_n 0, 1) := by decide +kernel
theorem d_M_section_81 : decode b_M_section 81 = .ok (.iload_n 1, 1) := by decide +kernel
theorem d_M_section_82 : decode b_M_section 82 = .ok (.iload_n 2, 1) := by decide +kernel
theorem d_M_section_83 : decode b_M_section 83 = .ok (.iload_n 3, 1) := by decide +kernel
theorem d_M_section_84 : decode b_M_section 84 = .ok (.iload 4, 2) := by decide +kernel
theorem d_M_section_86 : decode b_M_section 86 = .ok (.invokevirtual 145, 3) := by decide +kernel
theorem d_M_section_89 : decode b_M_section 89 = .ok (.aload_n 0, 1) := by decide +kernel
theorem d_M_section_90 : decode b_M_section 90 = .ok (.iconst 1, 1) := by decide +kernel
theorem d_M_section_91 : decode b_M_section 91 = .ok (.invokevirtual 149, 3) := by decide +kernel
theorem d_M_section_94 : decode b_M_section 94 = .ok (.aload_n 0, 1) := by decide +kernel
theorem d_M_section_95 : decode b_M_section 95 = .ok (.invokevirtual 101, 3) := by decide +kernel
theorem d_M_section_98 : decode b_M_section 98 = .ok (.aload_n 0, 1) := by decide +kernel
theorem d_M_section_99 : decode b_M_section 99 = .ok (.aload_n 0, 1) := by decide +kernel
theorem d_M_section_100 : decode b_M_section 100 = .ok (.getfield 76, 3) := by decide +kernel
theorem d_M_section_103 : decode b_M_section 103 = .ok (.putfield 88, 3) := by decide +kernel
theorem d_M_section_106 : decode b_M_section 106 = .ok (.aload_n 0, 1) := by decide +kernel
theorem d_M_section_107 : decode b_M_section 107 = .ok (.aload_n 0, 1) := by decide +kernel
theorem d_M_section_108 : decode b_M_section 108 = .ok (.getfield 79, 3) := by decide +kernel
theorem d_M_section_111 : decode b_M_section 111 = .ok (.putfield 85, 3) := by decide +kernel
theorem d_M_section_114 : decode b_M_section 114 = .ok (.aload_n 0, 1) := by decide +kernel
theorem d_M_section_115 : decode b_M_section 115 = .ok (.iconst 0, 1) := by decide +kernel
theorem d_M_section_116 : decode b_M_section 116 = .ok (.invokevirtual 149, 3) := by decide +kernel
theorem d_M_section_119 : decode b_M_section 119 = .ok (.aload_n 0, 1) := by decide +kernel
theorem d_M_section_120 : decode b_M_section 120 = .ok (.invokevirtual 101, 3) := by decide +kernel
theorem d_M_section_123 : decode b_M_section 123 = .ok (.aload_n 0, 1) := by decide +kernel
theorem d_M_section_124 : decode b_M_section 124 = .ok (.aload_n 0, 1) := by decide +kernel
theorem d_M_section_125 : decode b_M_section 125 = .ok (.getfield 76, 3) := by decide +kernel
theorem d_M_section_128 : decode b_M_section 128 = .ok (.putfield 94, 3) := by decide +kernel
theorem d_M_section_131 : decode b_M_section 131 = .ok (.aload_n 0, 1) := by decide +kernel
theorem d_M_section_132 : decode b_M_section 132 = .ok (.aload_n 0, 1) := by decide +kernel
theorem d_M_section_133 : decode b_M_section 133 = .ok (.getfield 79, 3) := by decide +kernel
theorem d_M_section_136 : decode b_M_section 136 = .ok (.putfield 91, 3) := by decide +kernel
theorem d_M_section_139 : decode b_M_section 139 = .ok (.aload_n 0, 1) := by decide +kernel
theorem d_M_section_140 : decode b_M_section 140 = .ok (.iconst 1, 1) := by decide +kernel
theorem d_M_section_141 : decode b_M_section 141 = .ok (.invokevirtual 107, 3) := by decide +kernel
theorem d_M_section_144 : decode b_M_section 144 = .ok (.ireturn, 1) := by decide +kernel
theorem d_M_layBase_0 : decode b_M_layBase 0 = .ok (.iconst 0, 1) := by decide +kernel
theorem d_M_layBase_1 : decode b_M_layBase 1 = .ok (.istore 5, 2) := by decide +kernel
theorem d_M_layBase_3 : decode b_M_layBase 3 = .ok (.iload 5, 2) := by decide +kernel
theorem d_M_layBase_5 : decode b_M_layBase 5 = .ok (.bipush 12, 2) := by decide +kernel
theorem d_M_layBase_7 : decode b_M_layBase 7 = .ok (.if_icmp .ge 17, 3) := by decide +kernel
theorem d_M_layBase_10 : decode b_M_layBase 10 = .ok (.aload_n 0, 1) := by decide +kernel
theorem d_M_layBase_11 : decode b_M_layBase 11 = .ok (.getfield 39, 3) := by decide +kernel
theorem d_M_layBase_14 : decode b_M_layBase 14 = .ok (.iload 5, 2) := by decide +kernel
theorem d_M_layBase_16 : decode b_M_layBase 16 = .ok (.lconst 0, 1) := by decide +kernel
theorem d_M_layBase_17 : decode b_M_layBase 17 = .ok (.lastore, 1) := by decide +kernel
theorem d_M_layBase_18 : decode b_M_layBase 18 = .ok (.iinc 5 1, 3) := by decide +kernel
theorem d_M_layBase_21 : decode b_M_layBase 21 = .ok (.goto (-18), 3) := by decide +kernel
theorem d_M_layBase_24 : decode b_M_layBase 24 = .ok (.iload_n 3, 1) := by decide +kernel
theorem d_M_layBase_25 : decode b_M_layBase 25 = .ok (.ifCond .eq 7, 3) := by decide +kernel
theorem d_M_layBase_28 : decode b_M_layBase 28 = .ok (.iconst 3, 1) := by decide +kernel
theorem d_M_layBase_29 : decode b_M_layBase 29 = .ok (.goto 12, 3) := by decide +kernel
theorem d_M_layBase_32 : decode b_M_layBase 32 = .ok (.iload_n 2, 1) := by decide +kernel
theorem d_M_layBase_33 : decode b_M_layBase 33 = .ok (.ifCond .eq 7, 3) := by decide +kernel
theorem d_M_layBase_36 : decode b_M_layBase 36 = .ok (.iconst 2, 1) := by decide +kernel
theorem d_M_layBase_37 : decode b_M_layBase 37 = .ok (.goto 4, 3) := by decide +kernel
theorem d_M_layBase_40 : decode b_M_layBase 40 = .ok (.iconst 1, 1) := by decide +kernel
theorem d_M_layBase_41 : decode b_M_layBase 41 = .ok (.istore 5, 2) := by decide +kernel
theorem d_M_layBase_43 : decode b_M_layBase 43 = .ok (.iload_n 3, 1) := by decide +kernel
theorem d_M_layBase_44 : decode b_M_layBase 44 = .ok (.ifCond .eq 7, 3) := by decide +kernel
theorem d_M_layBase_47 : decode b_M_layBase 47 = .ok (.iload_n 3, 1) := by decide +kernel
theorem d_M_layBase_48 : decode b_M_layBase 48 = .ok (.goto 12, 3) := by decide +kernel
theorem d_M_layBase_51 : decode b_M_layBase 51 = .ok (.iload_n 2, 1) := by decide +kernel
theorem d_M_layBase_52 : decode b_M_layBase 52 = .ok (.ifCond .eq 7, 3) := by decide +kernel
theorem d_M_layBase_55 : decode b_M_layBase 55 = .ok (.iload_n 2, 1) := by decide +kernel
theorem d_M_layBase_56 : decode b_M_layBase 56 = .ok (.goto 4, 3) := by decide +kernel
theorem d_M_layBase_59 : decode b_M_layBase 59 = .ok (.iload_n 1, 1) := by decide +kernel
theorem d_M_layBase_60 : decode b_M_layBase 60 = .ok (.istore 6, 2) := by decide +kernel
theorem d_M_layBase_62 : decode b_M_layBase 62 = .ok (.aload_n 0, 1) := by decide +kernel
theorem d_M_layBase_63 : decode b_M_layBase 63 = .ok (.getfield 39, 3) := by decide +kernel
theorem d_M_layBase_66 : decode b_M_layBase 66 = .ok (.iconst 0, 1) := by decide +kernel
theorem d_M_layBase_67 : decode b_M_layBase 67 = .ok (.iload 6, 2) := by decide +kernel
theorem d_M_layBase_69 : decode b_M_layBase 69 = .ok (.i2l, 1) := by decide +kernel
theorem d_M_layBase_70 : decode b_M_layBase 70 = .ok (.lastore, 1) := by decide +kernel
theorem d_M_layBase_71 : decode b_M_layBase 71 = .ok (.aload_n 0, 1) := by decide +kernel
theorem d_M_layBase_72 : decode b_M_layBase 72 = .ok (.getfield 39, 3) := by decide +kernel
theorem d_M_layBase_75 : decode b_M_layBase 75 = .ok (.iload 5, 2) := by decide +kernel
theorem d_M_layBase_77 : decode b_M_layBase 77 = .ok (.iload 4, 2) := by decide +kernel
theorem d_M_layBase_79 : decode b_M_layBase 79 = .ok (.i2l, 1) := by decide +kernel
theorem d_M_layBase_80 : decode b_M_layBase 80 = .ok (.lastore, 1) := by decide +kernel
theorem d_M_layBase_81 : decode b_M_layBase 81 = .ok (.iconst 1, 1) := by decide +kernel
theorem d_M_layBase_82 : decode b_M_layBase 82 = .ok (.istore 7, 2) := by decide +kernel
theorem d_M_layBase_84 : decode b_M_layBase 84 = .ok (.iconst 1, 1) := by decide +kernel
theorem d_M_layBase_85 : decode b_M_layBase 85 = .ok (.istore 8, 2) := by decide +kernel
theorem d_M_layBase_87 : decode b_M_layBase 87 = .ok (.iload 8, 2) := by decide +kernel
theorem d_M_layBase_89 : decode b_M_layBase 89 = .ok (.iconst 3, 1) := by decide +kernel
theorem d_M_layBase_90 : decode b_M_layBase 90 = .ok (.if_icmp .gt 73, 3) := by decide +kernel
theorem d_M_layBase_93 : decode b_M_layBase 93 = .ok (.iload 8, 2) := by decide +kernel
theorem d_M_layBase_95 : decode b_M_layBase 95 = .ok (.iload 5, 2) := by decide +kernel
theorem d_M_layBase_97 : decode b_M_layBase 97 = .ok (.if_icmp .eq 60, 3) := by decide +kernel
theorem d_M_layBase_100 : decode b_M_layBase 100 = .ok (.aload_n 0, 1) := by decide +kernel
theorem d_M_layBase_101 : decode b_M_layBase 101 = .ok (.getfield 39, 3) := by decide +kernel
theorem d_M_layBase_104 : decode b_M_layBase 104 = .ok (.iconst 4, 1) := by decide +kernel
theorem d_M_layBase_105 : decode b_M_layBase 105 = .ok (.iload 7, 2) := by decide +kernel
theorem d_M_layBase_107 : decode b_M_layBase 107 = .ok (.imul, 1) := by decide +kernel
theorem d_M_layBase_108 : decode b_M_layBase 108 = .ok (.iload 8, 2) := by decide +kernel
theorem d_M_layBase_110 : decode b_M_layBase 110 = .ok (.iadd, 1) := by decide +kernel
theorem d_M_layBase_111 : decode b_M_layBase 111 = .ok (.iload 6, 2) := by decide +kernel
theorem d_M_layBase_113 : decode b_M_layBase 113 = .ok (.i2l, 1) := by decide +kernel
theorem d_M_layBase_114 : decode b_M_layBase 114 = .ok (.lastore, 1) := by decide +kernel
theorem d_M_layBase_115 : decode b_M_layBase 115 = .ok (.aload_n 0, 1) := by decide +kernel
theorem d_M_layBase_116 : decode b_M_layBase 116 = .ok (.getfield 39, 3) := by decide +kernel
theorem d_M_layBase_119 : decode b_M_layBase 119 = .ok (.iconst 4, 1) := by decide +kernel
theorem d_M_layBase_120 : decode b_M_layBase 120 = .ok (.iload 7, 2) := by decide +kernel
theorem d_M_layBase_122 : decode b_M_layBase 122 = .ok (.imul, 1) := by decide +kernel
theorem d_M_layBase_123 : decode b_M_layBase 123 = .ok (.iload 5, 2) := by decide +kernel
theorem d_M_layBase_125 : decode b_M_layBase 125 = .ok (.iadd, 1) := by decide +kernel
theorem d_M_layBase_126 : decode b_M_layBase 126 = .ok (.iload 8, 2) := by decide +kernel
theorem d_M_layBase_128 : decode b_M_layBase 128 = .ok (.iconst 1, 1) := by decide +kernel
theorem d_M_layBase_129 : decode b_M_layBase 129 = .ok (.if_icmp .ne 9, 3) := by decide +kernel
theorem d_M_layBase_132 : decode b_M_layBase 132 = .ok (.iload_n 1, 1) := by decide +kernel
theorem d_M_layBase_133 : decode b_M_layBase 133 = .ok (.ineg, 1) := by decide +kernel
theorem d_M_layBase_134 : decode b_M_layBase 134 = .ok (.i2l, 1) := by decide +kernel
theorem d_M_layBase_135 : decode b_M_layBase 135 = .ok (.goto 18, 3) := by decide +kernel
theorem d_M_layBase_138 : decode b_M_layBase 138 = .ok (.iload 8, 2) := by decide +kernel
theorem d_M_layBase_140 : decode b_M_layBase 140 = .ok (.iconst 2, 1) := by decide +kernel
theorem d_M_layBase_141 : decode b_M_layBase 141 = .ok (.if_icmp .ne 9, 3) := by decide +kernel
theorem d_M_layBase_144 : decode b_M_layBase 144 = .ok (.iload_n 2, 1) := by decide +kernel
theorem d_M_layBase_145 : decode b_M_layBase 145 = .ok (.ineg, 1) := by decide +kernel
theorem d_M_layBase_146 : decode b_M_layBase 146 = .ok (.i2l, 1) := by decide +kernel
theorem d_M_layBase_147 : decode b_M_layBase 147 = .ok (.goto 6, 3) := by decide +kernel
theorem d_M_layBase_150 : decode b_M_layBase 150 = .ok (.iload_n 3, 1) := by decide +kernel
theorem d_M_layBase_151 : decode b_M_layBase 151 = .ok (.ineg, 1) := by decide +kernel
theorem d_M_layBase_152 : decode b_M_layBase 152 = .ok (.i2l, 1) := by decide +kernel
theorem d_M_layBase_153 : decode b_M_layBase 153 = .ok (.lastore, 1) := by decide +kernel
theorem d_M_layBase_154 : decode b_M_layBase 154 = .ok (.iinc 7 1, 3) := by decide +kernel
theorem d_M_layBase_157 : decode b_M_layBase 157 = .ok (.iinc 8 1, 3) := by decide +kernel
theorem d_M_layBase_160 : decode b_M_layBase 160 = .ok (.goto (-73), 3) := by decide +kernel
theorem d_M_layBase_163 : decode b_M_layBase 163 = .ok (.return_, 1) := by decide +kernel
theorem d_M_layCut_0 : decode b_M_layCut 0 = .ok (.aload_n 0, 1) := by decide +kernel
theorem d_M_layCut_1 : decode b_M_layCut 1 = .ok (.iconst 3, 1) := by decide +kernel
theorem d_M_layCut_2 : decode b_M_layCut 2 = .ok (.iload_n 1, 1) := by decide +kernel
theorem d_M_layCut_3 : decode b_M_layCut 3 = .ok (.isub, 1) := by decide +kernel
theorem d_M_layCut_4 : decode b_M_layCut 4 = .ok (.putfield 58, 3) := by decide +kernel
theorem d_M_layCut_7 : decode b_M_layCut 7 = .ok (.iconst 0, 1) := by decide +kernel
theorem d_M_layCut_8 : decode b_M_layCut 8 = .ok (.istore_n 2, 1) := by decide +kernel
theorem d_M_layCut_9 : decode b_M_layCut 9 = .ok (.iload_n 2, 1) := by decide +kernel
theorem d_M_layCut_10 : decode b_M_layCut 10 = .ok (.aload_n 0, 1) := by decide +kernel
theorem d_M_layCut_11 : decode b_M_layCut 11 = .ok (.getfield 58, 3) := by decide +kernel
theorem d_M_layCut_14 : decode b_M_layCut 14 = .ok (.if_icmp .ge 45, 3) := by decide +kernel
theorem d_M_layCut_17 : decode b_M_layCut 17 = .ok (.iconst 0, 1) := by decide +kernel
theorem d_M_layCut_18 : decode b_M_layCut 18 = .ok (.istore_n 3, 1) := by decide +kernel
theorem d_M_layCut_19 : decode b_M_layCut 19 = .ok (.iload_n 3, 1) := by decide +kernel
theorem d_M_layCut_20 : decode b_M_layCut 20 = .ok (.aload_n 0, 1) := by decide +kernel
theorem d_M_layCut_21 : decode b_M_layCut 21 = .ok (.getfield 58, 3) := by decide +kernel
theorem d_M_layCut_24 : decode b_M_layCut 24 = .ok (.if_icmp .ge 29, 3) := by decide +kernel
theorem d_M_layCut_27 : decode b_M_layCut 27 = .ok (.aload_n 0, 1) := by decide +kernel
theorem d_M_layCut_28 : decode b_M_layCut 28 = .ok (.getfield 20, 3) := by decide +kernel
theorem d_M_layCut_31 : decode b_M_layCut 31 = .ok (.iconst 4, 1) := by decide +kernel
theorem d_M_layCut_32 : decode b_M_layCut 32 = .ok (.iload_n 2, 1) := by decide +kernel
theorem d_M_layCut_33 : decode b_M_layCut 33 = .ok (.imul, 1) := by decide +kernel
theorem d_M_layCut_34 : decode b_M_layCut 34 = .ok (.iload_n 3, 1) := by decide +kernel
theorem d_M_layCut_35 : decode b_M_layCut 35 = .ok (.iadd, 1) := by decide +kernel
theorem d_M_layCut_36 : decode b_M_layCut 36 = .ok (.aload_n 0, 1) := by decide +kernel
theorem d_M_layCut_37 : decode b_M_layCut 37 = .ok (.iload_n 2, 1) := by decide +kernel
theorem d_M_layCut_38 : decode b_M_layCut 38 = .ok (.iload_n 1, 1) := by decide +kernel
theorem d_M_layCut_39 : decode b_M_layCut 39 = .ok (.iadd, 1) := by decide +kernel
theorem d_M_layCut_40 : decode b_M_layCut 40 = .ok (.iload_n 3, 1) := by decide +kernel
theorem d_M_layCut_41 : decode b_M_layCut 41 = .ok (.iload_n 1, 1) := by decide +kernel
theorem d_M_layCut_42 : decode b_M_layCut 42 = .ok (.iadd, 1) := by decide +kernel
theorem d_M_layCut_43 : decode b_M_layCut 43 = .ok (.invokevirtual 153, 3) := by decide +kernel
theorem d_M_layCut_46 : decode b_M_layCut 46 = .ok (.lastore, 1) := by decide +kernel
theorem d_M_layCut_47 : decode b_M_layCut 47 = .ok (.iinc 3 1, 3) := by decide +kernel
theorem d_M_layCut_50 : decode b_M_layCut 50 = .ok (.goto (-31), 3) := by decide +kernel
theorem d_M_layCut_53 : decode b_M_layCut 53 = .ok (.iinc 2 1, 3) := by decide +kernel
theorem d_M_layCut_56 : decode b_M_layCut 56 = .ok (.goto (-47), 3) := by decide +kernel
theorem d_M_layCut_59 : decode b_M_layCut 59 = .ok (.return_, 1) := by decide +kernel
theorem d_M_formOf_0 : decode b_M_formOf 0 = .ok (.lconst 0, 1) := by decide +kernel
theorem d_M_formOf_1 : decode b_M_formOf 1 = .ok (.lstore_n 3, 1) := by decide +kernel
theorem d_M_formOf_2 : decode b_M_formOf 2 = .ok (.iconst 0, 1) := by decide +kernel
theorem d_M_formOf_3 : decode b_M_formOf 3 = .ok (.istore 5, 2) := by decide +kernel
theorem d_M_formOf_5 : decode b_M_formOf 5 = .ok (.iload 5, 2) := by decide +kernel
theorem d_M_formOf_7 : decode b_M_formOf 7 = .ok (.iconst 4, 1) := by decide +kernel
theorem d_M_formOf_8 : decode b_M_formOf 8 = .ok (.if_icmp .ge 64, 3) := by decide +kernel
theorem d_M_formOf_11 : decode b_M_formOf 11 = .ok (.iconst 0, 1) := by decide +kernel
theorem d_M_formOf_12 : decode b_M_formOf 12 = .ok (.istore 6, 2) := by decide +kernel
theorem d_M_formOf_14 : decode b_M_formOf 14 = .ok (.iload 6, 2) := by decide +kernel
theorem d_M_formOf_16 : decode b_M_formOf 16 = .ok (.iconst 4, 1) := by decide +kernel
theorem d_M_formOf_17 : decode b_M_formOf 17 = .ok (.if_icmp .ge 49, 3) := by decide +kernel
theorem d_M_formOf_20 : decode b_M_formOf 20 = .ok (.lload_n 3, 1) := by decide +kernel
theorem d_M_formOf_21 : decode b_M_formOf 21 = .ok (.aload_n 0, 1) := by decide +kernel
theorem d_M_formOf_22 : decode b_M_formOf 22 = .ok (.getfield 39, 3) := by decide +kernel
theorem d_M_formOf_25 : decode b_M_formOf 25 = .ok (.iconst 4, 1) := by decide +kernel
theorem d_M_formOf_26 : decode b_M_formOf 26 = .ok (.iload_n 1, 1) := by decide +kernel
theorem d_M_formOf_27 : decode b_M_formOf 27 = .ok (.imul, 1) := by decide +kernel
theorem d_M_formOf_28 : decode b_M_formOf 28 = .ok (.iload 5, 2) := by decide +kernel
theorem d_M_formOf_30 : decode b_M_formOf 30 = .ok (.iadd, 1) := by decide +kernel
theorem d_M_formOf_31 : decode b_M_formOf 31 = .ok (.laload, 1) := by decide +kernel
theorem d_M_formOf_32 : decode b_M_formOf 32 = .ok (.aload_n 0, 1) := by decide +kernel
theorem d_M_formOf_33 : decode b_M_formOf 33 = .ok (.getfield 13, 3) := by decide +kernel
theorem d_M_formOf_36 : decode b_M_formOf 36 = .ok (.iconst 4, 1) := by decide +kernel
theorem d_M_formOf_37 : decode b_M_formOf 37 = .ok (.iload 5, 2) := by decide +kernel
theorem d_M_formOf_39 : decode b_M_formOf 39 = .ok (.imul, 1) := by decide +kernel
theorem d_M_formOf_40 : decode b_M_formOf 40 = .ok (.iload 6, 2) := by decide +kernel
theorem d_M_formOf_42 : decode b_M_formOf 42 = .ok (.iadd, 1) := by decide +kernel
theorem d_M_formOf_43 : decode b_M_formOf 43 = .ok (.iaload, 1) := by decide +kernel
theorem d_M_formOf_44 : decode b_M_formOf 44 = .ok (.i2l, 1) := by decide +kernel
theorem d_M_formOf_45 : decode b_M_formOf 45 = .ok (.lmul, 1) := by decide +kernel
theorem d_M_formOf_46 : decode b_M_formOf 46 = .ok (.aload_n 0, 1) := by decide +kernel
theorem d_M_formOf_47 : decode b_M_formOf 47 = .ok (.getfield 39, 3) := by decide +kernel
theorem d_M_formOf_50 : decode b_M_formOf 50 = .ok (.iconst 4, 1) := by decide +kernel
theorem d_M_formOf_51 : decode b_M_formOf 51 = .ok (.iload_n 2, 1) := by decide +kernel
theorem d_M_formOf_52 : decode b_M_formOf 52 = .ok (.imul, 1) := by decide +kernel
theorem d_M_formOf_53 : decode b_M_formOf 53 = .ok (.iload 6, 2) := by decide +kernel
theorem d_M_formOf_55 : decode b_M_formOf 55 = .ok (.iadd, 1) := by decide +kernel
theorem d_M_formOf_56 : decode b_M_formOf 56 = .ok (.laload, 1) := by decide +kernel
theorem d_M_formOf_57 : decode b_M_formOf 57 = .ok (.lmul, 1) := by decide +kernel
theorem d_M_formOf_58 : decode b_M_formOf 58 = .ok (.ladd, 1) := by decide +kernel
theorem d_M_formOf_59 : decode b_M_formOf 59 = .ok (.lstore_n 3, 1) := by decide +kernel
theorem d_M_formOf_60 : decode b_M_formOf 60 = .ok (.iinc 6 1, 3) := by decide +kernel
theorem d_M_formOf_63 : decode b_M_formOf 63 = .ok (.goto (-49), 3) := by decide +kernel
theorem d_M_formOf_66 : decode b_M_formOf 66 = .ok (.iinc 5 1, 3) := by decide +kernel
theorem d_M_formOf_69 : decode b_M_formOf 69 = .ok (.goto (-64), 3) := by decide +kernel
theorem d_M_formOf_72 : decode b_M_formOf 72 = .ok (.lload_n 3, 1) := by decide +kernel
theorem d_M_formOf_73 : decode b_M_formOf 73 = .ok (.lreturn, 1) := by decide +kernel
theorem d_M_meets_0 : decode b_M_meets 0 = .ok (.aload_n 0, 1) := by decide +kernel
theorem d_M_meets_1 : decode b_M_meets 1 = .ok (.iconst 0, 1) := by decide +kernel
theorem d_M_meets_2 : decode b_M_meets 2 = .ok (.putfield 45, 3) := by decide +kernel
theorem d_M_meets_5 : decode b_M_meets 5 = .ok (.aload_n 0, 1) := by decide +kernel
theorem d_M_meets_6 : decode b_M_meets 6 = .ok (.getfield 7, 3) := by decide +kernel
theorem d_M_meets_9 : decode b_M_meets 9 = .ok (.iconst 2, 1) := by decide +kernel
theorem d_M_meets_10 : decode b_M_meets 10 = .ok (.if_icmp .ne 7, 3) := by decide +kernel
theorem d_M_meets_13 : decode b_M_meets 13 = .ok (.iconst 1, 1) := by decide +kernel
theorem d_M_meets_14 : decode b_M_meets 14 = .ok (.goto 4, 3) := by decide +kernel
theorem d_M_meets_17 : decode b_M_meets 17 = .ok (.iconst 0, 1) := by decide +kernel
theorem d_M_meets_18 : decode b_M_meets 18 = .ok (.istore 7, 2) := by decide +kernel
theorem d_M_meets_20 : decode b_M_meets 20 = .ok (.iload_n 1, 1) := by decide +kernel
theorem d_M_meets_21 : decode b_M_meets 21 = .ok (.i2l, 1) := by decide +kernel
theorem d_M_meets_22 : decode b_M_meets 22 = .ok (.bipush (-20), 2) := by decide +kernel
theorem d_M_meets_24 : decode b_M_meets 24 = .ok (.bipush 20, 2) := by decide +kernel
theorem d_M_meets_26 : decode b_M_meets 26 = .ok (.invokestatic 52, 3) := by decide +kernel
theorem d_M_meets_29 : decode b_M_meets 29 = .ok (.ifCond .eq 96, 3) := by decide +kernel
theorem d_M_meets_32 : decode b_M_meets 32 = .ok (.iload_n 2, 1) := by decide +kernel
theorem d_M_meets_33 : decode b_M_meets 33 = .ok (.i2l, 1) := by decide +kernel
theorem d_M_meets_34 : decode b_M_meets 34 = .ok (.bipush (-20), 2) := by decide +kernel
theorem d_M_meets_36 : decode b_M_meets 36 = .ok (.bipush 20, 2) := by decide +kernel
theorem d_M_meets_38 : decode b_M_meets 38 = .ok (.invokestatic 52, 3) := by decide +kernel
theorem d_M_meets_41 : decode b_M_meets 41 = .ok (.ifCond .eq 84, 3) := by decide +kernel
theorem d_M_meets_44 : decode b_M_meets 44 = .ok (.iload 7, 2) := by decide +kernel
theorem d_M_meets_46 : decode b_M_meets 46 = .ok (.ifCond .ne 15, 3) := by decide +kernel
theorem d_M_meets_49 : decode b_M_meets 49 = .ok (.iload_n 3, 1) := by decide +kernel
theorem d_M_meets_50 : decode b_M_meets 50 = .ok (.i2l, 1) := by decide +kernel
theorem d_M_meets_51 : decode b_M_meets 51 = .ok (.bipush (-20), 2) := by decide +kernel
theorem d_M_meets_53 : decode b_M_meets 53 = .ok (.bipush 20, 2) := by decide +kernel
theorem d_M_meets_55 : decode b_M_meets 55 = .ok (.invokestatic 52, 3) := by decide +kernel
theorem d_M_meets_58 : decode b_M_meets 58 = .ok (.ifCond .eq 67, 3) := by decide +kernel
theorem d_M_meets_61 : decode b_M_meets 61 = .ok (.iload 4, 2) := by decide +kernel
theorem d_M_meets_63 : decode b_M_meets 63 = .ok (.i2l, 1) := by decide +kernel
theorem d_M_meets_64 : decode b_M_meets 64 = .ok (.bipush (-20), 2) := by decide +kernel
theorem d_M_meets_66 : decode b_M_meets 66 = .ok (.bipush 20, 2) := by decide +kernel
theorem d_M_meets_68 : decode b_M_meets 68 = .ok (.invokestatic 52, 3) := by decide +kernel
theorem d_M_meets_71 : decode b_M_meets 71 = .ok (.ifCond .eq 54, 3) := by decide +kernel
theorem d_M_meets_74 : decode b_M_meets 74 = .ok (.iload 5, 2) := by decide +kernel
theorem d_M_meets_76 : decode b_M_meets 76 = .ok (.i2l, 1) := by decide +kernel
theorem d_M_meets_77 : decode b_M_meets 77 = .ok (.bipush (-20), 2) := by decide +kernel
theorem d_M_meets_79 : decode b_M_meets 79 = .ok (.bipush 20, 2) := by decide +kernel
theorem d_M_meets_81 : decode b_M_meets 81 = .ok (.invokestatic 52, 3) := by decide +kernel
theorem d_M_meets_84 : decode b_M_meets 84 = .ok (.ifCond .eq 41, 3) := by decide +kernel
theorem d_M_meets_87 : decode b_M_meets 87 = .ok (.iload 7, 2) := by decide +kernel
theorem d_M_meets_89 : decode b_M_meets 89 = .ok (.ifCond .ne 16, 3) := by decide +kernel
theorem d_M_meets_92 : decode b_M_meets 92 = .ok (.iload 6, 2) := by decide +kernel
theorem d_M_meets_94 : decode b_M_meets 94 = .ok (.i2l, 1) := by decide +kernel
theorem d_M_meets_95 : decode b_M_meets 95 = .ok (.bipush (-20), 2) := by decide +kernel
theorem d_M_meets_97 : decode b_M_meets 97 = .ok (.bipush 20, 2) := by decide +kernel
theorem d_M_meets_99 : decode b_M_meets 99 = .ok (.invokestatic 52, 3) := by decide +kernel
theorem d_M_meets_102 : decode b_M_meets 102 = .ok (.ifCond .eq 23, 3) := by decide +kernel
theorem d_M_meets_105 : decode b_M_meets 105 = .ok (.iload 4, 2) := by decide +kernel
theorem d_M_meets_107 : decode b_M_meets 107 = .ok (.ifCond .ne 21, 3) := by decide +kernel
theorem d_M_meets_110 : decode b_M_meets 110 = .ok (.iload 5, 2) := by decide +kernel
theorem d_M_meets_112 : decode b_M_meets 112 = .ok (.ifCond .ne 16, 3) := by decide +kernel
theorem d_M_meets_115 : decode b_M_meets 115 = .ok (.iload 7, 2) := by decide +kernel
theorem d_M_meets_117 : decode b_M_meets 117 = .ok (.ifCond .ne 8, 3) := by decide +kernel
theorem d_M_meets_120 : decode b_M_meets 120 = .ok (.iload 6, 2) := by decide +kernel
theorem d_M_meets_122 : decode b_M_meets 122 = .ok (.ifCond .ne 6, 3) := by decide +kernel
theorem d_M_meets_125 : decode b_M_meets 125 = .ok (.bipush (-2), 2) := by decide +kernel
theorem d_M_meets_127 : decode b_M_meets 127 = .ok (.ireturn, 1) := by decide +kernel
theorem d_M_meets_128 : decode b_M_meets 128 = .ok (.aload_n 0, 1) := by decide +kernel
theorem d_M_meets_129 : decode b_M_meets 129 = .ok (.getfield 39, 3) := by decide +kernel
theorem d_M_meets_132 : decode b_M_meets 132 = .ok (.iconst 0, 1) := by decide +kernel
theorem d_M_meets_133 : decode b_M_meets 133 = .ok (.lconst 1, 1) := by decide +kernel
theorem d_M_meets_134 : decode b_M_meets 134 = .ok (.lastore, 1) := by decide +kernel
theorem d_M_meets_135 : decode b_M_meets 135 = .ok (.aload_n 0, 1) := by decide +kernel
theorem d_M_meets_136 : decode b_M_meets 136 = .ok (.getfield 39, 3) := by decide +kernel
theorem d_M_meets_139 : decode b_M_meets 139 = .ok (.iconst 1, 1) := by decide +kernel
theorem d_M_meets_140 : decode b_M_meets 140 = .ok (.iload_n 1, 1) := by decide +kernel
theorem d_M_meets_141 : decode b_M_meets 141 = .ok (.i2l, 1) := by decide +kernel
theorem d_M_meets_142 : decode b_M_meets 142 = .ok (.lastore, 1) := by decide +kernel
theorem d_M_meets_143 : decode b_M_meets 143 = .ok (.aload_n 0, 1) := by decide +kernel
theorem d_M_meets_144 : decode b_M_meets 144 = .ok (.getfield 39, 3) := by decide +kernel
theorem d_M_meets_147 : decode b_M_meets 147 = .ok (.iconst 2, 1) := by decide +kernel
theorem d_M_meets_148 : decode b_M_meets 148 = .ok (.iload_n 2, 1) := by decide +kernel
theorem d_M_meets_149 : decode b_M_meets 149 = .ok (.i2l, 1) := by decide +kernel
theorem d_M_meets_150 : decode b_M_meets 150 = .ok (.lastore, 1) := by decide +kernel
theorem d_M_meets_151 : decode b_M_meets 151 = .ok (.aload_n 0, 1) := by decide +kernel
theorem d_M_meets_152 : decode b_M_meets 152 = .ok (.getfield 39, 3) := by decide +kernel
theorem d_M_meets_155 : decode b_M_meets 155 = .ok (.iconst 3, 1) := by decide +kernel
theorem d_M_meets_156 : decode b_M_meets 156 = .ok (.iload 7, 2) := by decide +kernel
theorem d_M_meets_158 : decode b_M_meets 158 = .ok (.ifCond .eq 7, 3) := by decide +kernel
theorem d_M_meets_161 : decode b_M_meets 161 = .ok (.lconst 0, 1) := by decide +kernel
theorem d_M_meets_162 : decode b_M_meets 162 = .ok (.goto 5, 3) := by decide +kernel
theorem d_M_meets_165 : decode b_M_meets 165 = .ok (.iload_n 3, 1) := by decide +kernel
theorem d_M_meets_166 : decode b_M_meets 166 = .ok (.i2l, 1) := by decide +kernel
theorem d_M_meets_167 : decode b_M_meets 167 = .ok (.lastore, 1) := by decide +kernel
theorem d_M_meets_168 : decode b_M_meets 168 = .ok (.aload_n 0, 1) := by decide +kernel
theorem d_M_meets_169 : decode b_M_meets 169 = .ok (.getfield 39, 3) := by decide +kernel
theorem d_M_meets_172 : decode b_M_meets 172 = .ok (.iconst 4, 1) := by decide +kernel
theorem d_M_meets_173 : decode b_M_meets 173 = .ok (.lconst 0, 1) := by decide +kernel
theorem d_M_meets_174 : decode b_M_meets 174 = .ok (.lastore, 1) := by decide +kernel
theorem d_M_meets_175 : decode b_M_meets 175 = .ok (.aload_n 0, 1) := by decide +kernel
theorem d_M_meets_176 : decode b_M_meets 176 = .ok (.getfield 39, 3) := by decide +kernel
theorem d_M_meets_179 : decode b_M_meets 179 = .ok (.iconst 5, 1) := by decide +kernel
theorem d_M_meets_180 : decode b_M_meets 180 = .ok (.iload 4, 2) := by decide +kernel
theorem d_M_meets_182 : decode b_M_meets 182 = .ok (.i2l, 1) := by decide +kernel
theorem d_M_meets_183 : decode b_M_meets 183 = .ok (.lastore, 1) := by decide +kernel
theorem d_M_meets_184 : decode b_M_meets 184 = .ok (.aload_n 0, 1) := by decide +kernel
theorem d_M_meets_185 : decode b_M_meets 185 = .ok (.getfield 39, 3) := by decide +kernel
theorem d_M_meets_188 : decode b_M_meets 188 = .ok (.bipush 6, 2) := by decide +kernel
theorem d_M_meets_190 : decode b_M_meets 190 = .ok (.iload 5, 2) := by decide +kernel
theorem d_M_meets_192 : decode b_M_meets 192 = .ok (.i2l, 1) := by decide +kernel
theorem d_M_meets_193 : decode b_M_meets 193 = .ok (.lastore, 1) := by decide +kernel
theorem d_M_meets_194 : decode b_M_meets 194 = .ok (.aload_n 0, 1) := by decide +kernel
theorem d_M_meets_195 : decode b_M_meets 195 = .ok (.getfield 39, 3) := by decide +kernel
theorem d_M_meets_198 : decode b_M_meets 198 = .ok (.bipush 7, 2) := by decide +kernel
theorem d_M_meets_200 : decode b_M_meets 200 = .ok (.iload 7, 2) := by decide +kernel
theorem d_M_meets_202 : decode b_M_meets 202 = .ok (.ifCond .eq 7, 3) := by decide +kernel
theorem d_M_meets_205 : decode b_M_meets 205 = .ok (.lconst 0, 1) := by decide +kernel
theorem d_M_meets_206 : decode b_M_meets 206 = .ok (.goto 6, 3) := by decide +kernel
theorem d_M_meets_209 : decode b_M_meets 209 = .ok (.iload 6, 2) := by decide +kernel
theorem d_M_meets_211 : decode b_M_meets 211 = .ok (.i2l, 1) := by decide +kernel
theorem d_M_meets_212 : decode b_M_meets 212 = .ok (.lastore, 1) := by decide +kernel
theorem d_M_meets_213 : decode b_M_meets 213 = .ok (.aload_n 0, 1) := by decide +kernel
theorem d_M_meets_214 : decode b_M_meets 214 = .ok (.iconst 1, 1) := by decide +kernel
theorem d_M_meets_215 : decode b_M_meets 215 = .ok (.iconst 1, 1) := by decide +kernel
theorem d_M_meets_216 : decode b_M_meets 216 = .ok (.invokevirtual 153, 3) := by decide +kernel
theorem d_M_meets_219 : decode b_M_meets 219 = .ok (.lstore 8, 2) := by decide +kernel
theorem d_M_meets_221 : decode b_M_meets 221 = .ok (.aload_n 0, 1) := by decide +kernel
theorem d_M_meets_222 : decode b_M_meets 222 = .ok (.iconst 0, 1) := by decide +kernel
theorem d_M_meets_223 : decode b_M_meets 223 = .ok (.iconst 1, 1) := by decide +kernel
theorem d_M_meets_224 : decode b_M_meets 224 = .ok (.invokevirtual 153, 3) := by decide +kernel
theorem d_M_meets_227 : decode b_M_meets 227 = .ok (.lstore 10, 2) := by decide +kernel
theorem d_M_meets_229 : decode b_M_meets 229 = .ok (.aload_n 0, 1) := by decide +kernel
theorem d_M_meets_230 : decode b_M_meets 230 = .ok (.iconst 0, 1) := by decide +kernel
theorem d_M_meets_231 : decode b_M_meets 231 = .ok (.iconst 0, 1) := by decide +kernel
theorem d_M_meets_232 : decode b_M_meets 232 = .ok (.invokevirtual 153, 3) := by decide +kernel
theorem d_M_meets_235 : decode b_M_meets 235 = .ok (.lstore 12, 2) := by decide +kernel
theorem d_M_meets_237 : decode b_M_meets 237 = .ok (.lload 8, 2) := by decide +kernel
theorem d_M_meets_239 : decode b_M_meets 239 = .ok (.lconst 0, 1) := by decide +kernel
theorem d_M_meets_240 : decode b_M_meets 240 = .ok (.lcmp, 1) := by decide +kernel
theorem d_M_meets_241 : decode b_M_meets 241 = .ok (.ifCond .ne 27, 3) := by decide +kernel
theorem d_M_meets_244 : decode b_M_meets 244 = .ok (.lload 10, 2) := by decide +kernel
theorem d_M_meets_246 : decode b_M_meets 246 = .ok (.lconst 0, 1) := by decide +kernel
theorem d_M_meets_247 : decode b_M_meets 247 = .ok (.lcmp, 1) := by decide +kernel
theorem d_M_meets_248 : decode b_M_meets 248 = .ok (.ifCond .eq 7, 3) := by decide +kernel
theorem d_M_meets_251 : decode b_M_meets 251 = .ok (.iconst 1, 1) := by decide +kernel
theorem d_M_meets_252 : decode b_M_meets 252 = .ok (.goto 15, 3) := by decide +kernel
theorem d_M_meets_255 : decode b_M_meets 255 = .ok (.lload 12, 2) := by decide +kernel
theorem d_M_meets_257 : decode b_M_meets 257 = .ok (.lconst 0, 1) := by decide +kernel
theorem d_M_meets_258 : decode b_M_meets 258 = .ok (.lcmp, 1) := by decide +kernel
theorem d_M_meets_259 : decode b_M_meets 259 = .ok (.ifCond .eq 7, 3) := by decide +kernel
theorem d_M_meets_262 : decode b_M_meets 262 = .ok (.iconst 0, 1) := by decide +kernel
theorem d_M_meets_263 : decode b_M_meets 263 = .ok (.goto 4, 3) := by decide +kernel
theorem d_M_meets_266 : decode b_M_meets 266 = .ok (.iconst 3, 1) := by decide +kernel
theorem d_M_meets_267 : decode b_M_meets 267 = .ok (.ireturn, 1) := by decide +kernel
theorem d_M_meets_268 : decode b_M_meets 268 = .ok (.lload 10, 2) := by decide +kernel
theorem d_M_meets_270 : decode b_M_meets 270 = .ok (.lload 10, 2) := by decide +kernel
theorem d_M_meets_272 : decode b_M_meets 272 = .ok (.lmul, 1) := by decide +kernel
theorem d_M_meets_273 : decode b_M_meets 273 = .ok (.lload 8, 2) := by decide +kernel
theorem d_M_meets_275 : decode b_M_meets 275 = .ok (.lload 12, 2) := by decide +kernel
theorem d_M_meets_277 : decode b_M_meets 277 = .ok (.lmul, 1) := by decide +kernel
theorem d_M_meets_278 : decode b_M_meets 278 = .ok (.lsub, 1) := by decide +kernel
theorem d_M_meets_279 : decode b_M_meets 279 = .ok (.lstore 14, 2) := by decide +kernel
theorem d_M_meets_281 : decode b_M_meets 281 = .ok (.lload 14, 2) := by decide +kernel
theorem d_M_meets_283 : decode b_M_meets 283 = .ok (.lconst 0, 1) := by decide +kernel
theorem d_M_meets_284 : decode b_M_meets 284 = .ok (.lcmp, 1) := by decide +kernel
theorem d_M_meets_285 : decode b_M_meets 285 = .ok (.ifCond .le 7, 3) := by decide +kernel
theorem d_M_meets_288 : decode b_M_meets 288 = .ok (.iconst 2, 1) := by decide +kernel
theorem d_M_meets_289 : decode b_M_meets 289 = .ok (.goto 15, 3) := by decide +kernel
theorem d_M_meets_292 : decode b_M_meets 292 = .ok (.lload 14, 2) := by decide +kernel
theorem d_M_meets_294 : decode b_M_meets 294 = .ok (.lconst 0, 1) := by decide +kernel
theorem d_M_meets_295 : decode b_M_meets 295 = .ok (.lcmp, 1) := by decide +kernel
theorem d_M_meets_296 : decode b_M_meets 296 = .ok (.ifCond .ne 7, 3) := by decide +kernel
theorem d_M_meets_299 : decode b_M_meets 299 = .ok (.iconst 1, 1) := by decide +kernel
theorem d_M_meets_300 : decode b_M_meets 300 = .ok (.goto 4, 3) := by decide +kernel
theorem d_M_meets_303 : decode b_M_meets 303 = .ok (.iconst 0, 1) := by decide +kernel
theorem d_M_meets_304 : decode b_M_meets 304 = .ok (.ireturn, 1) := by decide +kernel
theorem d_M_line_0 : decode b_M_line 0 = .ok (.aload_n 0, 1) := by decide +kernel
theorem d_M_line_1 : decode b_M_line 1 = .ok (.iconst 0, 1) := by decide +kernel
theorem d_M_line_2 : decode b_M_line 2 = .ok (.putfield 45, 3) := by decide +kernel
theorem d_M_line_5 : decode b_M_line 5 = .ok (.aload_n 0, 1) := by decide +kernel
theorem d_M_line_6 : decode b_M_line 6 = .ok (.getfield 7, 3) := by decide +kernel
theorem d_M_line_9 : decode b_M_line 9 = .ok (.iconst 3, 1) := by decide +kernel
theorem d_M_line_10 : decode b_M_line 10 = .ok (.if_icmp .eq 13, 3) := by decide +kernel
theorem d_M_line_13 : decode b_M_line 13 = .ok (.iload_n 2, 1) := by decide +kernel
theorem d_M_line_14 : decode b_M_line 14 = .ok (.i2l, 1) := by decide +kernel
theorem d_M_line_15 : decode b_M_line 15 = .ok (.iconst 0, 1) := by decide +kernel
theorem d_M_line_16 : decode b_M_line 16 = .ok (.iconst 2, 1) := by decide +kernel
theorem d_M_line_17 : decode b_M_line 17 = .ok (.invokestatic 52, 3) := by decide +kernel
theorem d_M_line_20 : decode b_M_line 20 = .ok (.ifCond .ne 7, 3) := by decide +kernel
theorem d_M_line_23 : decode b_M_line 23 = .ok (.ldc2_w 56, 3) := by decide +kernel
theorem d_M_line_26 : decode b_M_line 26 = .ok (.lreturn, 1) := by decide +kernel
theorem d_M_line_27 : decode b_M_line 27 = .ok (.aload_n 0, 1) := by decide +kernel
theorem d_M_line_28 : decode b_M_line 28 = .ok (.aload_n 0, 1) := by decide +kernel
theorem d_M_line_29 : decode b_M_line 29 = .ok (.invokevirtual 111, 3) := by decide +kernel
theorem d_M_line_32 : decode b_M_line 32 = .ok (.invokevirtual 172, 3) := by decide +kernel
theorem d_M_line_35 : decode b_M_line 35 = .ok (.iload_n 1, 1) := by decide +kernel
theorem d_M_line_36 : decode b_M_line 36 = .ok (.i2l, 1) := by decide +kernel
theorem d_M_line_37 : decode b_M_line 37 = .ok (.iconst 0, 1) := by decide +kernel
theorem d_M_line_38 : decode b_M_line 38 = .ok (.aload_n 0, 1) := by decide +kernel
theorem d_M_line_39 : decode b_M_line 39 = .ok (.getfield 156, 3) := by decide +kernel
theorem d_M_line_42 : decode b_M_line 42 = .ok (.iconst 1, 1) := by decide +kernel
theorem d_M_line_43 : decode b_M_line 43 = .ok (.isub, 1) := by decide +kernel
theorem d_M_line_44 : decode b_M_line 44 = .ok (.invokestatic 52, 3) := by decide +kernel
theorem d_M_line_47 : decode b_M_line 47 = .ok (.ifCond .ne 7, 3) := by decide +kernel
theorem d_M_line_50 : decode b_M_line 50 = .ok (.ldc2_w 56, 3) := by decide +kernel
theorem d_M_line_53 : decode b_M_line 53 = .ok (.lreturn, 1) := by decide +kernel
theorem d_M_line_54 : decode b_M_line 54 = .ok (.aload_n 0, 1) := by decide +kernel
theorem d_M_line_55 : decode b_M_line 55 = .ok (.getfield 156, 3) := by decide +kernel
theorem d_M_line_58 : decode b_M_line 58 = .ok (.iconst 2, 1) := by decide +kernel
theorem d_M_line_59 : decode b_M_line 59 = .ok (.if_icmp .ne 14, 3) := by decide +kernel
theorem d_M_line_62 : decode b_M_line 62 = .ok (.aload_n 0, 1) := by decide +kernel
theorem d_M_line_63 : decode b_M_line 63 = .ok (.invokevirtual 175, 3) := by decide +kernel
theorem d_M_line_66 : decode b_M_line 66 = .ok (.ifCond .eq 7, 3) := by decide +kernel
theorem d_M_line_69 : decode b_M_line 69 = .ok (.iconst 1, 1) := by decide +kernel
theorem d_M_line_70 : decode b_M_line 70 = .ok (.goto 4, 3) := by decide +kernel
theorem d_M_line_73 : decode b_M_line 73 = .ok (.iconst 0, 1) := by decide +kernel
theorem d_M_line_74 : decode b_M_line 74 = .ok (.istore_n 3, 1) := by decide +kernel
theorem d_M_line_75 : decode b_M_line 75 = .ok (.aload_n 0, 1) := by decide +kernel
theorem d_M_line_76 : decode b_M_line 76 = .ok (.getfield 42, 3) := by decide +kernel
theorem d_M_line_79 : decode b_M_line 79 = .ok (.iconst 3, 1) := by decide +kernel
theorem d_M_line_80 : decode b_M_line 80 = .ok (.iload_n 3, 1) := by decide +kernel
theorem d_M_line_81 : decode b_M_line 81 = .ok (.ifCond .eq 9, 3) := by decide +kernel
theorem d_M_line_84 : decode b_M_line 84 = .ok (.iconst 1, 1) := by decide +kernel
theorem d_M_line_85 : decode b_M_line 85 = .ok (.iload_n 1, 1) := by decide +kernel
theorem d_M_line_86 : decode b_M_line 86 = .ok (.isub, 1) := by decide +kernel
theorem d_M_line_87 : decode b_M_line 87 = .ok (.goto 4, 3) := by decide +kernel
theorem d_M_line_90 : decode b_M_line 90 = .ok (.iload_n 1, 1) := by decide +kernel
theorem d_M_line_91 : decode b_M_line 91 = .ok (.imul, 1) := by decide +kernel
theorem d_M_line_92 : decode b_M_line 92 = .ok (.iload_n 2, 1) := by decide +kernel
theorem d_M_line_93 : decode b_M_line 93 = .ok (.iadd, 1) := by decide +kernel
theorem d_M_line_94 : decode b_M_line 94 = .ok (.laload, 1) := by decide +kernel
theorem d_M_line_95 : decode b_M_line 95 = .ok (.lreturn, 1) := by decide +kernel
theorem d_M_findLines_0 : decode b_M_findLines 0 = .ok (.aload_n 0, 1) := by decide +kernel
theorem d_M_findLines_1 : decode b_M_findLines 1 = .ok (.iconst 0, 1) := by decide +kernel
theorem d_M_findLines_2 : decode b_M_findLines 2 = .ok (.putfield 156, 3) := by decide +kernel
theorem d_M_findLines_5 : decode b_M_findLines 5 = .ok (.iload_n 1, 1) := by decide +kernel
theorem d_M_findLines_6 : decode b_M_findLines 6 = .ok (.bipush 7, 2) := by decide +kernel
theorem d_M_findLines_8 : decode b_M_findLines 8 = .ok (.if_icmp .ne 45, 3) := by decide +kernel
theorem d_M_findLines_11 : decode b_M_findLines 11 = .ok (.aload_n 0, 1) := by decide +kernel
theorem d_M_findLines_12 : decode b_M_findLines 12 = .ok (.iconst 0, 1) := by decide +kernel
theorem d_M_findLines_13 : decode b_M_findLines 13 = .ok (.aload_n 0, 1) := by decide +kernel
theorem d_M_findLines_14 : decode b_M_findLines 14 = .ok (.getfield 13, 3) := by decide +kernel
theorem d_M_findLines_17 : decode b_M_findLines 17 = .ok (.iconst 0, 1) := by decide +kernel
theorem d_M_findLines_18 : decode b_M_findLines 18 = .ok (.iaload, 1) := by decide +kernel
theorem d_M_findLines_19 : decode b_M_findLines 19 = .ok (.i2l, 1) := by decide +kernel
theorem d_M_findLines_20 : decode b_M_findLines 20 = .ok (.ldc2_w 167, 3) := by decide +kernel
theorem d_M_findLines_23 : decode b_M_findLines 23 = .ok (.aload_n 0, 1) := by decide +kernel
theorem d_M_findLines_24 : decode b_M_findLines 24 = .ok (.getfield 13, 3) := by decide +kernel
theorem d_M_findLines_27 : decode b_M_findLines 27 = .ok (.iconst 1, 1) := by decide +kernel
theorem d_M_findLines_28 : decode b_M_findLines 28 = .ok (.iaload, 1) := by decide +kernel
theorem d_M_findLines_29 : decode b_M_findLines 29 = .ok (.i2l, 1) := by decide +kernel
theorem d_M_findLines_30 : decode b_M_findLines 30 = .ok (.lmul, 1) := by decide +kernel
theorem d_M_findLines_31 : decode b_M_findLines 31 = .ok (.ldc2_w 167, 3) := by decide +kernel
theorem d_M_findLines_34 : decode b_M_findLines 34 = .ok (.aload_n 0, 1) := by decide +kernel
theorem d_M_findLines_35 : decode b_M_findLines 35 = .ok (.getfield 13, 3) := by decide +kernel
theorem d_M_findLines_38 : decode b_M_findLines 38 = .ok (.iconst 2, 1) := by decide +kernel
theorem d_M_findLines_39 : decode b_M_findLines 39 = .ok (.iaload, 1) := by decide +kernel
theorem d_M_findLines_40 : decode b_M_findLines 40 = .ok (.i2l, 1) := by decide +kernel
theorem d_M_findLines_41 : decode b_M_findLines 41 = .ok (.lmul, 1) := by decide +kernel
theorem d_M_findLines_42 : decode b_M_findLines 42 = .ok (.invokevirtual 163, 3) := by decide +kernel
theorem d_M_findLines_45 : decode b_M_findLines 45 = .ok (.aload_n 0, 1) := by decide +kernel
theorem d_M_findLines_46 : decode b_M_findLines 46 = .ok (.iconst 1, 1) := by decide +kernel
theorem d_M_findLines_47 : decode b_M_findLines 47 = .ok (.putfield 156, 3) := by decide +kernel
theorem d_M_findLines_50 : decode b_M_findLines 50 = .ok (.goto 93, 3) := by decide +kernel
theorem d_M_findLines_53 : decode b_M_findLines 53 = .ok (.iload_n 1, 1) := by decide +kernel
theorem d_M_findLines_54 : decode b_M_findLines 54 = .ok (.bipush 9, 2) := by decide +kernel
theorem d_M_findLines_56 : decode b_M_findLines 56 = .ok (.if_icmp .ne 62, 3) := by decide +kernel
theorem d_M_findLines_59 : decode b_M_findLines 59 = .ok (.aload_n 0, 1) := by decide +kernel
theorem d_M_findLines_60 : decode b_M_findLines 60 = .ok (.getfield 13, 3) := by decide +kernel
theorem d_M_findLines_63 : decode b_M_findLines 63 = .ok (.iconst 5, 1) := by decide +kernel
theorem d_M_findLines_64 : decode b_M_findLines 64 = .ok (.iaload, 1) := by decide +kernel
theorem d_M_findLines_65 : decode b_M_findLines 65 = .ok (.ifCond .eq 7, 3) := by decide +kernel
theorem d_M_findLines_68 : decode b_M_findLines 68 = .ok (.iconst 1, 1) := by decide +kernel
theorem d_M_findLines_69 : decode b_M_findLines 69 = .ok (.goto 4, 3) := by decide +kernel
theorem d_M_findLines_72 : decode b_M_findLines 72 = .ok (.iconst 2, 1) := by decide +kernel
theorem d_M_findLines_73 : decode b_M_findLines 73 = .ok (.istore_n 2, 1) := by decide +kernel
theorem d_M_findLines_74 : decode b_M_findLines 74 = .ok (.aload_n 0, 1) := by decide +kernel
theorem d_M_findLines_75 : decode b_M_findLines 75 = .ok (.iconst 0, 1) := by decide +kernel
theorem d_M_findLines_76 : decode b_M_findLines 76 = .ok (.aload_n 0, 1) := by decide +kernel
theorem d_M_findLines_77 : decode b_M_findLines 77 = .ok (.getfield 13, 3) := by decide +kernel
theorem d_M_findLines_80 : decode b_M_findLines 80 = .ok (.iconst 4, 1) := by decide +kernel
theorem d_M_findLines_81 : decode b_M_findLines 81 = .ok (.iload_n 2, 1) := by decide +kernel
theorem d_M_findLines_82 : decode b_M_findLines 82 = .ok (.imul, 1) := by decide +kernel
theorem d_M_findLines_83 : decode b_M_findLines 83 = .ok (.iaload, 1) := by decide +kernel
theorem d_M_findLines_84 : decode b_M_findLines 84 = .ok (.i2l, 1) := by decide +kernel
theorem d_M_findLines_85 : decode b_M_findLines 85 = .ok (.aload_n 0, 1) := by decide +kernel
theorem d_M_findLines_86 : decode b_M_findLines 86 = .ok (.getfield 13, 3) := by decide +kernel
theorem d_M_findLines_89 : decode b_M_findLines 89 = .ok (.iconst 4, 1) := by decide +kernel
theorem d_M_findLines_90 : decode b_M_findLines 90 = .ok (.iload_n 2, 1) := by decide +kernel
theorem d_M_findLines_91 : decode b_M_findLines 91 = .ok (.imul, 1) := by decide +kernel
theorem d_M_findLines_92 : decode b_M_findLines 92 = .ok (.iconst 1, 1) := by decide +kernel
theorem d_M_findLines_93 : decode b_M_findLines 93 = .ok (.iadd, 1) := by decide +kernel
theorem d_M_findLines_94 : decode b_M_findLines 94 = .ok (.iaload, 1) := by decide +kernel
theorem d_M_findLines_95 : decode b_M_findLines 95 = .ok (.i2l, 1) := by decide +kernel
theorem d_M_findLines_96 : decode b_M_findLines 96 = .ok (.aload_n 0, 1) := by decide +kernel
theorem d_M_findLines_97 : decode b_M_findLines 97 = .ok (.getfield 13, 3) := by decide +kernel
theorem d_M_findLines_100 : decode b_M_findLines 100 = .ok (.iconst 4, 1) := by decide +kernel
theorem d_M_findLines_101 : decode b_M_findLines 101 = .ok (.iload_n 2, 1) := by decide +kernel
theorem d_M_findLines_102 : decode b_M_findLines 102 = .ok (.imul, 1) := by decide +kernel
theorem d_M_findLines_103 : decode b_M_findLines 103 = .ok (.iconst 2, 1) := by decide +kernel
theorem d_M_findLines_104 : decode b_M_findLines 104 = .ok (.iadd, 1) := by decide +kernel
theorem d_M_findLines_105 : decode b_M_findLines 105 = .ok (.iaload, 1) := by decide +kernel
theorem d_M_findLines_106 : decode b_M_findLines 106 = .ok (.i2l, 1) := by decide +kernel
theorem d_M_findLines_107 : decode b_M_findLines 107 = .ok (.invokevirtual 163, 3) := by decide +kernel
theorem d_M_findLines_110 : decode b_M_findLines 110 = .ok (.aload_n 0, 1) := by decide +kernel
theorem d_M_findLines_111 : decode b_M_findLines 111 = .ok (.iconst 1, 1) := by decide +kernel
theorem d_M_findLines_112 : decode b_M_findLines 112 = .ok (.putfield 156, 3) := by decide +kernel
theorem d_M_findLines_115 : decode b_M_findLines 115 = .ok (.goto 28, 3) := by decide +kernel
theorem d_M_findLines_118 : decode b_M_findLines 118 = .ok (.iload_n 1, 1) := by decide +kernel
theorem d_M_findLines_119 : decode b_M_findLines 119 = .ok (.iconst 5, 1) := by decide +kernel
theorem d_M_findLines_120 : decode b_M_findLines 120 = .ok (.if_icmp .eq 9, 3) := by decide +kernel
theorem d_M_findLines_123 : decode b_M_findLines 123 = .ok (.iload_n 1, 1) := by decide +kernel
theorem d_M_findLines_124 : decode b_M_findLines 124 = .ok (.bipush 6, 2) := by decide +kernel
theorem d_M_findLines_126 : decode b_M_findLines 126 = .ok (.if_icmp .ne 17, 3) := by decide +kernel
theorem d_M_findLines_129 : decode b_M_findLines 129 = .ok (.aload_n 0, 1) := by decide +kernel
theorem d_M_findLines_130 : decode b_M_findLines 130 = .ok (.iload_n 1, 1) := by decide +kernel
theorem d_M_findLines_131 : decode b_M_findLines 131 = .ok (.iconst 5, 1) := by decide +kernel
theorem d_M_findLines_132 : decode b_M_findLines 132 = .ok (.if_icmp .ne 7, 3) := by decide +kernel
theorem d_M_findLines_135 : decode b_M_findLines 135 = .ok (.iconst 1, 1) := by decide +kernel
theorem d_M_findLines_136 : decode b_M_findLines 136 = .ok (.goto 4, 3) := by decide +kernel
theorem d_M_findLines_139 : decode b_M_findLines 139 = .ok (.iconst 0, 1) := by decide +kernel
theorem d_M_findLines_140 : decode b_M_findLines 140 = .ok (.invokevirtual 169, 3) := by decide +kernel
theorem d_M_findLines_143 : decode b_M_findLines 143 = .ok (.return_, 1) := by decide +kernel
theorem d_M_setLine_0 : decode b_M_setLine 0 = .ok (.aload_n 0, 1) := by decide +kernel
theorem d_M_setLine_1 : decode b_M_setLine 1 = .ok (.getfield 36, 3) := by decide +kernel
theorem d_M_setLine_4 : decode b_M_setLine 4 = .ok (.iconst 0, 1) := by decide +kernel
theorem d_M_setLine_5 : decode b_M_setLine 5 = .ok (.lload_n 2, 1) := by decide +kernel
theorem d_M_setLine_6 : decode b_M_setLine 6 = .ok (.lastore, 1) := by decide +kernel
theorem d_M_setLine_7 : decode b_M_setLine 7 = .ok (.aload_n 0, 1) := by decide +kernel
theorem d_M_setLine_8 : decode b_M_setLine 8 = .ok (.getfield 36, 3) := by decide +kernel
theorem d_M_setLine_11 : decode b_M_setLine 11 = .ok (.iconst 1, 1) := by decide +kernel
theorem d_M_setLine_12 : decode b_M_setLine 12 = .ok (.lload 4, 2) := by decide +kernel
theorem d_M_setLine_14 : decode b_M_setLine 14 = .ok (.lastore, 1) := by decide +kernel
theorem d_M_setLine_15 : decode b_M_setLine 15 = .ok (.aload_n 0, 1) := by decide +kernel
theorem d_M_setLine_16 : decode b_M_setLine 16 = .ok (.getfield 36, 3) := by decide +kernel
theorem d_M_setLine_19 : decode b_M_setLine 19 = .ok (.iconst 2, 1) := by decide +kernel
theorem d_M_setLine_20 : decode b_M_setLine 20 = .ok (.lload 6, 2) := by decide +kernel
theorem d_M_setLine_22 : decode b_M_setLine 22 = .ok (.lastore, 1) := by decide +kernel
theorem d_M_setLine_23 : decode b_M_setLine 23 = .ok (.iconst 0, 1) := by decide +kernel
theorem d_M_setLine_24 : decode b_M_setLine 24 = .ok (.istore 8, 2) := by decide +kernel
theorem d_M_setLine_26 : decode b_M_setLine 26 = .ok (.iload 8, 2) := by decide +kernel
theorem d_M_setLine_28 : decode b_M_setLine 28 = .ok (.iconst 3, 1) := by decide +kernel
theorem d_M_setLine_29 : decode b_M_setLine 29 = .ok (.if_icmp .ge 27, 3) := by decide +kernel
theorem d_M_setLine_32 : decode b_M_setLine 32 = .ok (.aload_n 0, 1) := by decide +kernel
theorem d_M_setLine_33 : decode b_M_setLine 33 = .ok (.getfield 42, 3) := by decide +kernel
theorem d_M_setLine_36 : decode b_M_setLine 36 = .ok (.iconst 3, 1) := by decide +kernel
theorem d_M_setLine_37 : decode b_M_setLine 37 = .ok (.iload_n 1, 1) := by decide +kernel
theorem d_M_setLine_38 : decode b_M_setLine 38 = .ok (.imul, 1) := by decide +kernel
theorem d_M_setLine_39 : decode b_M_setLine 39 = .ok (.iload 8, 2) := by decide +kernel
theorem d_M_setLine_41 : decode b_M_setLine 41 = .ok (.iadd, 1) := by decide +kernel
theorem d_M_setLine_42 : decode b_M_setLine 42 = .ok (.aload_n 0, 1) := by decide +kernel
theorem d_M_setLine_43 : decode b_M_setLine 43 = .ok (.iconst 3, 1) := by decide +kernel
theorem d_M_setLine_44 : decode b_M_setLine 44 = .ok (.iload 8, 2) := by decide +kernel
theorem d_M_setLine_46 : decode b_M_setLine 46 = .ok (.invokevirtual 141, 3) := by decide +kernel
theorem d_M_setLine_49 : decode b_M_setLine 49 = .ok (.lastore, 1) := by decide +kernel
theorem d_M_setLine_50 : decode b_M_setLine 50 = .ok (.iinc 8 1, 3) := by decide +kernel
theorem d_M_setLine_53 : decode b_M_setLine 53 = .ok (.goto (-27), 3) := by decide +kernel
theorem d_M_setLine_56 : decode b_M_setLine 56 = .ok (.return_, 1) := by decide +kernel
theorem d_M_findTwo_0 : decode b_M_findTwo 0 = .ok (.aload_n 0, 1) := by decide +kernel
theorem d_M_findTwo_1 : decode b_M_findTwo 1 = .ok (.getfield 13, 3) := by decide +kernel
theorem d_M_findTwo_4 : decode b_M_findTwo 4 = .ok (.iconst 5, 1) := by decide +kernel
theorem d_M_findTwo_5 : decode b_M_findTwo 5 = .ok (.iaload, 1) := by decide +kernel
theorem d_M_findTwo_6 : decode b_M_findTwo 6 = .ok (.i2l, 1) := by decide +kernel
theorem d_M_findTwo_7 : decode b_M_findTwo 7 = .ok (.lstore_n 2, 1) := by decide +kernel
theorem d_M_findTwo_8 : decode b_M_findTwo 8 = .ok (.aload_n 0, 1) := by decide +kernel
theorem d_M_findTwo_9 : decode b_M_findTwo 9 = .ok (.getfield 13, 3) := by decide +kernel
theorem d_M_findTwo_12 : decode b_M_findTwo 12 = .ok (.bipush 6, 2) := by decide +kernel
theorem d_M_findTwo_14 : decode b_M_findTwo 14 = .ok (.iaload, 1) := by decide +kernel
theorem d_M_findTwo_15 : decode b_M_findTwo 15 = .ok (.i2l, 1) := by decide +kernel
theorem d_M_findTwo_16 : decode b_M_findTwo 16 = .ok (.lstore 4, 2) := by decide +kernel
theorem d_M_findTwo_18 : decode b_M_findTwo 18 = .ok (.aload_n 0, 1) := by decide +kernel
theorem d_M_findTwo_19 : decode b_M_findTwo 19 = .ok (.getfield 13, 3) := by decide +kernel
theorem d_M_findTwo_22 : decode b_M_findTwo 22 = .ok (.bipush 10, 2) := by decide +kernel
theorem d_M_findTwo_24 : decode b_M_findTwo 24 = .ok (.iaload, 1) := by decide +kernel
theorem d_M_findTwo_25 : decode b_M_findTwo 25 = .ok (.i2l, 1) := by decide +kernel
theorem d_M_findTwo_26 : decode b_M_findTwo 26 = .ok (.lstore 6, 2) := by decide +kernel
theorem d_M_findTwo_28 : decode b_M_findTwo 28 = .ok (.aload_n 0, 1) := by decide +kernel
theorem d_M_findTwo_29 : decode b_M_findTwo 29 = .ok (.getfield 13, 3) := by decide +kernel
theorem d_M_findTwo_32 : decode b_M_findTwo 32 = .ok (.iconst 1, 1) := by decide +kernel
theorem d_M_findTwo_33 : decode b_M_findTwo 33 = .ok (.iaload, 1) := by decide +kernel
theorem d_M_findTwo_34 : decode b_M_findTwo 34 = .ok (.i2l, 1) := by decide +kernel
theorem d_M_findTwo_35 : decode b_M_findTwo 35 = .ok (.lstore 8, 2) := by decide +kernel
theorem d_M_findTwo_37 : decode b_M_findTwo 37 = .ok (.aload_n 0, 1) := by decide +kernel
theorem d_M_findTwo_38 : decode b_M_findTwo 38 = .ok (.getfield 13, 3) := by decide +kernel
theorem d_M_findTwo_41 : decode b_M_findTwo 41 = .ok (.iconst 2, 1) := by decide +kernel
theorem d_M_findTwo_42 : decode b_M_findTwo 42 = .ok (.iaload, 1) := by decide +kernel
theorem d_M_findTwo_43 : decode b_M_findTwo 43 = .ok (.i2l, 1) := by decide +kernel
theorem d_M_findTwo_44 : decode b_M_findTwo 44 = .ok (.lstore 10, 2) := by decide +kernel
theorem d_M_findTwo_46 : decode b_M_findTwo 46 = .ok (.aload_n 0, 1) := by decide +kernel
theorem d_M_findTwo_47 : decode b_M_findTwo 47 = .ok (.iconst 2, 1) := by decide +kernel
theorem d_M_findTwo_48 : decode b_M_findTwo 48 = .ok (.putfield 156, 3) := by decide +kernel
theorem d_M_findTwo_51 : decode b_M_findTwo 51 = .ok (.iload_n 1, 1) := by decide +kernel
theorem d_M_findTwo_52 : decode b_M_findTwo 52 = .ok (.ifCond .ne 128, 3) := by decide +kernel
theorem d_M_findTwo_55 : decode b_M_findTwo 55 = .ok (.lload_n 2, 1) := by decide +kernel
theorem d_M_findTwo_56 : decode b_M_findTwo 56 = .ok (.lconst 0, 1) := by decide +kernel
theorem d_M_findTwo_57 : decode b_M_findTwo 57 = .ok (.lcmp, 1) := by decide +kernel
theorem d_M_findTwo_58 : decode b_M_findTwo 58 = .ok (.ifCond .eq 24, 3) := by decide +kernel
theorem d_M_findTwo_61 : decode b_M_findTwo 61 = .ok (.lload 8, 2) := by decide +kernel
theorem d_M_findTwo_63 : decode b_M_findTwo 63 = .ok (.lload 8, 2) := by decide +kernel
theorem d_M_findTwo_65 : decode b_M_findTwo 65 = .ok (.lmul, 1) := by decide +kernel
theorem d_M_findTwo_66 : decode b_M_findTwo 66 = .ok (.lload_n 2, 1) := by decide +kernel
theorem d_M_findTwo_67 : decode b_M_findTwo 67 = .ok (.aload_n 0, 1) := by decide +kernel
theorem d_M_findTwo_68 : decode b_M_findTwo 68 = .ok (.getfield 13, 3) := by decide +kernel
theorem d_M_findTwo_71 : decode b_M_findTwo 71 = .ok (.iconst 0, 1) := by decide +kernel
theorem d_M_findTwo_72 : decode b_M_findTwo 72 = .ok (.iaload, 1) := by decide +kernel
theorem d_M_findTwo_73 : decode b_M_findTwo 73 = .ok (.i2l, 1) := by decide +kernel
theorem d_M_findTwo_74 : decode b_M_findTwo 74 = .ok (.lmul, 1) := by decide +kernel
theorem d_M_findTwo_75 : decode b_M_findTwo 75 = .ok (.lsub, 1) := by decide +kernel
theorem d_M_findTwo_76 : decode b_M_findTwo 76 = .ok (.invokestatic 159, 3) := by decide +kernel
theorem d_M_findTwo_79 : decode b_M_findTwo 79 = .ok (.goto 22, 3) := by decide +kernel
theorem d_M_findTwo_82 : decode b_M_findTwo 82 = .ok (.lload 10, 2) := by decide +kernel
theorem d_M_findTwo_84 : decode b_M_findTwo 84 = .ok (.lload 10, 2) := by decide +kernel
theorem d_M_findTwo_86 : decode b_M_findTwo 86 = .ok (.lmul, 1) := by decide +kernel
theorem d_M_findTwo_87 : decode b_M_findTwo 87 = .ok (.lload 6, 2) := by decide +kernel
theorem d_M_findTwo_89 : decode b_M_findTwo 89 = .ok (.aload_n 0, 1) := by decide +kernel
theorem d_M_findTwo_90 : decode b_M_findTwo 90 = .ok (.getfield 13, 3) := by decide +kernel
theorem d_M_findTwo_93 : decode b_M_findTwo 93 = .ok (.iconst 0, 1) := by decide +kernel
theorem d_M_findTwo_94 : decode b_M_findTwo 94 = .ok (.iaload, 1) := by decide +kernel
theorem d_M_findTwo_95 : decode b_M_findTwo 95 = .ok (.i2l, 1) := by decide +kernel
theorem d_M_findTwo_96 : decode b_M_findTwo 96 = .ok (.lmul, 1) := by decide +kernel
theorem d_M_findTwo_97 : decode b_M_findTwo 97 = .ok (.lsub, 1) := by decide +kernel
theorem d_M_findTwo_98 : decode b_M_findTwo 98 = .ok (.invokestatic 159, 3) := by decide +kernel
theorem d_M_findTwo_101 : decode b_M_findTwo 101 = .ok (.lstore 12, 2) := by decide +kernel
theorem d_M_findTwo_103 : decode b_M_findTwo 103 = .ok (.lload 12, 2) := by decide +kernel
theorem d_M_findTwo_105 : decode b_M_findTwo 105 = .ok (.lconst 0, 1) := by decide +kernel
theorem d_M_findTwo_106 : decode b_M_findTwo 106 = .ok (.lcmp, 1) := by decide +kernel
theorem d_M_findTwo_107 : decode b_M_findTwo 107 = .ok (.ifCond .ge 11, 3) := by decide +kernel
theorem d_M_findTwo_110 : decode b_M_findTwo 110 = .ok (.aload_n 0, 1) := by decide +kernel
theorem d_M_findTwo_111 : decode b_M_findTwo 111 = .ok (.iconst 0, 1) := by decide +kernel
theorem d_M_findTwo_112 : decode b_M_findTwo 112 = .ok (.putfield 156, 3) := by decide +kernel
theorem d_M_findTwo_115 : decode b_M_findTwo 115 = .ok (.goto 64, 3) := by decide +kernel
theorem d_M_findTwo_118 : decode b_M_findTwo 118 = .ok (.lload_n 2, 1) := by decide +kernel
theorem d_M_findTwo_119 : decode b_M_findTwo 119 = .ok (.lconst 0, 1) := by decide +kernel
theorem d_M_findTwo_120 : decode b_M_findTwo 120 = .ok (.lcmp, 1) := by decide +kernel
theorem d_M_findTwo_121 : decode b_M_findTwo 121 = .ok (.ifCond .eq 32, 3) := by decide +kernel
theorem d_M_findTwo_124 : decode b_M_findTwo 124 = .ok (.aload_n 0, 1) := by decide +kernel
theorem d_M_findTwo_125 : decode b_M_findTwo 125 = .ok (.iconst 0, 1) := by decide +kernel
theorem d_M_findTwo_126 : decode b_M_findTwo 126 = .ok (.lload 8, 2) := by decide +kernel
theorem d_M_findTwo_128 : decode b_M_findTwo 128 = .ok (.lload 12, 2) := by decide +kernel
theorem d_M_findTwo_130 : decode b_M_findTwo 130 = .ok (.ladd, 1) := by decide +kernel
theorem d_M_findTwo_131 : decode b_M_findTwo 131 = .ok (.lload_n 2, 1) := by decide +kernel
theorem d_M_findTwo_132 : decode b_M_findTwo 132 = .ok (.lload 4, 2) := by decide +kernel
theorem d_M_findTwo_134 : decode b_M_findTwo 134 = .ok (.invokevirtual 163, 3) := by decide +kernel
theorem d_M_findTwo_137 : decode b_M_findTwo 137 = .ok (.aload_n 0, 1) := by decide +kernel
theorem d_M_findTwo_138 : decode b_M_findTwo 138 = .ok (.iconst 1, 1) := by decide +kernel
theorem d_M_findTwo_139 : decode b_M_findTwo 139 = .ok (.lload 8, 2) := by decide +kernel
theorem d_M_findTwo_141 : decode b_M_findTwo 141 = .ok (.lload 12, 2) := by decide +kernel
theorem d_M_findTwo_143 : decode b_M_findTwo 143 = .ok (.lsub, 1) := by decide +kernel
theorem d_M_findTwo_144 : decode b_M_findTwo 144 = .ok (.lload_n 2, 1) := by decide +kernel
theorem d_M_findTwo_145 : decode b_M_findTwo 145 = .ok (.lload 4, 2) := by decide +kernel
theorem d_M_findTwo_147 : decode b_M_findTwo 147 = .ok (.invokevirtual 163, 3) := by decide +kernel
theorem d_M_findTwo_150 : decode b_M_findTwo 150 = .ok (.goto 29, 3) := by decide +kernel
theorem d_M_findTwo_153 : decode b_M_findTwo 153 = .ok (.aload_n 0, 1) := by decide +kernel
theorem d_M_findTwo_154 : decode b_M_findTwo 154 = .ok (.iconst 0, 1) := by decide +kernel
theorem d_M_findTwo_155 : decode b_M_findTwo 155 = .ok (.lload 10, 2) := by decide +kernel
theorem d_M_findTwo_157 : decode b_M_findTwo 157 = .ok (.lload 12, 2) := by decide +kernel
theorem d_M_findTwo_159 : decode b_M_findTwo 159 = .ok (.ladd, 1) := by decide +kernel
theorem d_M_findTwo_160 : decode b_M_findTwo 160 = .ok (.lconst 0, 1) := by decide +kernel
theorem d_M_findTwo_161 : decode b_M_findTwo 161 = .ok (.lload 6, 2) := by decide +kernel
theorem d_M_findTwo_163 : decode b_M_findTwo 163 = .ok (.invokevirtual 163, 3) := by decide +kernel
theorem d_M_findTwo_166 : decode b_M_findTwo 166 = .ok (.aload_n 0, 1) := by decide +kernel
theorem d_M_findTwo_167 : decode b_M_findTwo 167 = .ok (.iconst 1, 1) := by decide +kernel
theorem d_M_findTwo_168 : decode b_M_findTwo 168 = .ok (.lload 10, 2) := by decide +kernel
theorem d_M_findTwo_170 : decode b_M_findTwo 170 = .ok (.lload 12, 2) := by decide +kernel
theorem d_M_findTwo_172 : decode b_M_findTwo 172 = .ok (.lsub, 1) := by decide +kernel
theorem d_M_findTwo_173 : decode b_M_findTwo 173 = .ok (.lconst 0, 1) := by decide +kernel
theorem d_M_findTwo_174 : decode b_M_findTwo 174 = .ok (.lload 6, 2) := by decide +kernel
theorem d_M_findTwo_176 : decode b_M_findTwo 176 = .ok (.invokevirtual 163, 3) := by decide +kernel
theorem d_M_findTwo_179 : decode b_M_findTwo 179 = .ok (.return_, 1) := by decide +kernel
theorem d_M_findTwo_180 : decode b_M_findTwo 180 = .ok (.lload 4, 2) := by decide +kernel
theorem d_M_findTwo_182 : decode b_M_findTwo 182 = .ok (.lload 4, 2) := by decide +kernel
theorem d_M_findTwo_184 : decode b_M_findTwo 184 = .ok (.lmul, 1) := by decide +kernel
theorem d_M_findTwo_185 : decode b_M_findTwo 185 = .ok (.lload_n 2, 1) := by decide +kernel
theorem d_M_findTwo_186 : decode b_M_findTwo 186 = .ok (.lload 6, 2) := by decide +kernel
theorem d_M_findTwo_188 : decode b_M_findTwo 188 = .ok (.lmul, 1) := by decide +kernel
theorem d_M_findTwo_189 : decode b_M_findTwo 189 = .ok (.lsub, 1) := by decide +kernel
theorem d_M_findTwo_190 : decode b_M_findTwo 190 = .ok (.invokestatic 159, 3) := by decide +kernel
theorem d_M_findTwo_193 : decode b_M_findTwo 193 = .ok (.lstore 12, 2) := by decide +kernel
theorem d_M_findTwo_195 : decode b_M_findTwo 195 = .ok (.lload 12, 2) := by decide +kernel
theorem d_M_findTwo_197 : decode b_M_findTwo 197 = .ok (.lconst 0, 1) := by decide +kernel
theorem d_M_findTwo_198 : decode b_M_findTwo 198 = .ok (.lcmp, 1) := by decide +kernel
theorem d_M_findTwo_199 : decode b_M_findTwo 199 = .ok (.ifCond .ge 11, 3) := by decide +kernel
theorem d_M_findTwo_202 : decode b_M_findTwo 202 = .ok (.aload_n 0, 1) := by decide +kernel
theorem d_M_findTwo_203 : decode b_M_findTwo 203 = .ok (.iconst 0, 1) := by decide +kernel
theorem d_M_findTwo_204 : decode b_M_findTwo 204 = .ok (.putfield 156, 3) := by decide +kernel
theorem d_M_findTwo_207 : decode b_M_findTwo 207 = .ok (.goto 166, 3) := by decide +kernel
theorem d_M_findTwo_210 : decode b_M_findTwo 210 = .ok (.lload_n 2, 1) := by decide +kernel
theorem d_M_findTwo_211 : decode b_M_findTwo 211 = .ok (.lconst 0, 1) := by decide +kernel
theorem d_M_findTwo_212 : decode b_M_findTwo 212 = .ok (.lcmp, 1) := by decide +kernel
theorem d_M_findTwo_213 : decode b_M_findTwo 213 = .ok (.ifCond .eq 66, 3) := by decide +kernel
theorem d_M_findTwo_216 : decode b_M_findTwo 216 = .ok (.aload_n 0, 1) := by decide +kernel
theorem d_M_findTwo_217 : decode b_M_findTwo 217 = .ok (.iconst 0, 1) := by decide +kernel
theorem d_M_findTwo_218 : decode b_M_findTwo 218 = .ok (.lload 8, 2) := by decide +kernel
theorem d_M_findTwo_220 : decode b_M_findTwo 220 = .ok (.lload 4, 2) := by decide +kernel
theorem d_M_findTwo_222 : decode b_M_findTwo 222 = .ok (.lload 12, 2) := by decide +kernel
theorem d_M_findTwo_224 : decode b_M_findTwo 224 = .ok (.ladd, 1) := by decide +kernel
theorem d_M_findTwo_225 : decode b_M_findTwo 225 = .ok (.lmul, 1) := by decide +kernel
theorem d_M_findTwo_226 : decode b_M_findTwo 226 = .ok (.lload_n 2, 1) := by decide +kernel
theorem d_M_findTwo_227 : decode b_M_findTwo 227 = .ok (.lload 10, 2) := by decide +kernel
theorem d_M_findTwo_229 : decode b_M_findTwo 229 = .ok (.lmul, 1) := by decide +kernel
theorem d_M_findTwo_230 : decode b_M_findTwo 230 = .ok (.lsub, 1) := by decide +kernel
theorem d_M_findTwo_231 : decode b_M_findTwo 231 = .ok (.lload 12, 2) := by decide +kernel
theorem d_M_findTwo_233 : decode b_M_findTwo 233 = .ok (.lload_n 2, 1) := by decide +kernel
theorem d_M_findTwo_234 : decode b_M_findTwo 234 = .ok (.lmul, 1) := by decide +kernel
theorem d_M_findTwo_235 : decode b_M_findTwo 235 = .ok (.lload 12, 2) := by decide +kernel
theorem d_M_findTwo_237 : decode b_M_findTwo 237 = .ok (.lload 4, 2) := by decide +kernel
theorem d_M_findTwo_239 : decode b_M_findTwo 239 = .ok (.lload 12, 2) := by decide +kernel
theorem d_M_findTwo_241 : decode b_M_findTwo 241 = .ok (.ladd, 1) := by decide +kernel
theorem d_M_findTwo_242 : decode b_M_findTwo 242 = .ok (.lmul, 1) := by decide +kernel
theorem d_M_findTwo_243 : decode b_M_findTwo 243 = .ok (.invokevirtual 163, 3) := by decide +kernel
theorem d_M_findTwo_246 : decode b_M_findTwo 246 = .ok (.aload_n 0, 1) := by decide +kernel
theorem d_M_findTwo_247 : decode b_M_findTwo 247 = .ok (.iconst 1, 1) := by decide +kernel
theorem d_M_findTwo_248 : decode b_M_findTwo 248 = .ok (.lload_n 2, 1) := by decide +kernel
theorem d_M_findTwo_249 : decode b_M_findTwo 249 = .ok (.lload 10, 2) := by decide +kernel
theorem d_M_findTwo_251 : decode b_M_findTwo 251 = .ok (.lmul, 1) := by decide +kernel
theorem d_M_findTwo_252 : decode b_M_findTwo 252 = .ok (.lload 8, 2) := by decide +kernel
theorem d_M_findTwo_254 : decode b_M_findTwo 254 = .ok (.lload 4, 2) := by decide +kernel
theorem d_M_findTwo_256 : decode b_M_findTwo 256 = .ok (.lload 12, 2) := by decide +kernel
theorem d_M_findTwo_258 : decode b_M_findTwo 258 = .ok (.lsub, 1) := by decide +kernel
theorem d_M_findTwo_259 : decode b_M_findTwo 259 = .ok (.lmul, 1) := by decide +kernel
theorem d_M_findTwo_260 : decode b_M_findTwo 260 = .ok (.lsub, 1) := by decide +kernel
theorem d_M_findTwo_261 : decode b_M_findTwo 261 = .ok (.lload 12, 2) := by decide +kernel
theorem d_M_findTwo_263 : decode b_M_findTwo 263 = .ok (.lload_n 2, 1) := by decide +kernel
theorem d_M_findTwo_264 : decode b_M_findTwo 264 = .ok (.lmul, 1) := by decide +kernel
theorem d_M_findTwo_265 : decode b_M_findTwo 265 = .ok (.lload 12, 2) := by decide +kernel
theorem d_M_findTwo_267 : decode b_M_findTwo 267 = .ok (.lload 4, 2) := by decide +kernel
theorem d_M_findTwo_269 : decode b_M_findTwo 269 = .ok (.lload 12, 2) := by decide +kernel
theorem d_M_findTwo_271 : decode b_M_findTwo 271 = .ok (.lsub, 1) := by decide +kernel
theorem d_M_findTwo_272 : decode b_M_findTwo 272 = .ok (.lmul, 1) := by decide +kernel
theorem d_M_findTwo_273 : decode b_M_findTwo 273 = .ok (.invokevirtual 163, 3) := by decide +kernel
theorem d_M_findTwo_276 : decode b_M_findTwo 276 = .ok (.goto 97, 3) := by decide +kernel
theorem d_M_findTwo_279 : decode b_M_findTwo 279 = .ok (.lload 6, 2) := by decide +kernel
theorem d_M_findTwo_281 : decode b_M_findTwo 281 = .ok (.lconst 0, 1) := by decide +kernel
theorem d_M_findTwo_282 : decode b_M_findTwo 282 = .ok (.lcmp, 1) := by decide +kernel
theorem d_M_findTwo_283 : decode b_M_findTwo 283 = .ok (.ifCond .eq 70, 3) := by decide +kernel
theorem d_M_findTwo_286 : decode b_M_findTwo 286 = .ok (.aload_n 0, 1) := by decide +kernel
theorem d_M_findTwo_287 : decode b_M_findTwo 287 = .ok (.iconst 0, 1) := by decide +kernel
theorem d_M_findTwo_288 : decode b_M_findTwo 288 = .ok (.lload 10, 2) := by decide +kernel
theorem d_M_findTwo_290 : decode b_M_findTwo 290 = .ok (.lload 4, 2) := by decide +kernel
theorem d_M_findTwo_292 : decode b_M_findTwo 292 = .ok (.lload 12, 2) := by decide +kernel
theorem d_M_findTwo_294 : decode b_M_findTwo 294 = .ok (.ladd, 1) := by decide +kernel
theorem d_M_findTwo_295 : decode b_M_findTwo 295 = .ok (.lmul, 1) := by decide +kernel
theorem d_M_findTwo_296 : decode b_M_findTwo 296 = .ok (.lload 6, 2) := by decide +kernel
theorem d_M_findTwo_298 : decode b_M_findTwo 298 = .ok (.lload 8, 2) := by decide +kernel
theorem d_M_findTwo_300 : decode b_M_findTwo 300 = .ok (.lmul, 1) := by decide +kernel
theorem d_M_findTwo_301 : decode b_M_findTwo 301 = .ok (.lsub, 1) := by decide +kernel
theorem d_M_findTwo_302 : decode b_M_findTwo 302 = .ok (.lload 12, 2) := by decide +kernel
theorem d_M_findTwo_304 : decode b_M_findTwo 304 = .ok (.lload 4, 2) := by decide +kernel
theorem d_M_findTwo_306 : decode b_M_findTwo 306 = .ok (.lload 12, 2) := by decide +kernel
theorem d_M_findTwo_308 : decode b_M_findTwo 308 = .ok (.ladd, 1) := by decide +kernel
theorem d_M_findTwo_309 : decode b_M_findTwo 309 = .ok (.lmul, 1) := by decide +kernel
theorem d_M_findTwo_310 : decode b_M_findTwo 310 = .ok (.lload 12, 2) := by decide +kernel
theorem d_M_findTwo_312 : decode b_M_findTwo 312 = .ok (.lload 6, 2) := by decide +kernel
theorem d_M_findTwo_314 : decode b_M_findTwo 314 = .ok (.lmul, 1) := by decide +kernel
theorem d_M_findTwo_315 : decode b_M_findTwo 315 = .ok (.invokevirtual 163, 3) := by decide +kernel
theorem d_M_findTwo_318 : decode b_M_findTwo 318 = .ok (.aload_n 0, 1) := by decide +kernel
theorem d_M_findTwo_319 : decode b_M_findTwo 319 = .ok (.iconst 1, 1) := by decide +kernel
theorem d_M_findTwo_320 : decode b_M_findTwo 320 = .ok (.lload 6, 2) := by decide +kernel
theorem d_M_findTwo_322 : decode b_M_findTwo 322 = .ok (.lload 8, 2) := by decide +kernel
theorem d_M_findTwo_324 : decode b_M_findTwo 324 = .ok (.lmul, 1) := by decide +kernel
theorem d_M_findTwo_325 : decode b_M_findTwo 325 = .ok (.lload 10, 2) := by decide +kernel
theorem d_M_findTwo_327 : decode b_M_findTwo 327 = .ok (.lload 4, 2) := by decide +kernel
theorem d_M_findTwo_329 : decode b_M_findTwo 329 = .ok (.lload 12, 2) := by decide +kernel
theorem d_M_findTwo_331 : decode b_M_findTwo 331 = .ok (.lsub, 1) := by decide +kernel
theorem d_M_findTwo_332 : decode b_M_findTwo 332 = .ok (.lmul, 1) := by decide +kernel
theorem d_M_findTwo_333 : decode b_M_findTwo 333 = .ok (.lsub, 1) := by decide +kernel
theorem d_M_findTwo_334 : decode b_M_findTwo 334 = .ok (.lload 12, 2) := by decide +kernel
theorem d_M_findTwo_336 : decode b_M_findTwo 336 = .ok (.lload 4, 2) := by decide +kernel
theorem d_M_findTwo_338 : decode b_M_findTwo 338 = .ok (.lload 12, 2) := by decide +kernel
theorem d_M_findTwo_340 : decode b_M_findTwo 340 = .ok (.lsub, 1) := by decide +kernel
theorem d_M_findTwo_341 : decode b_M_findTwo 341 = .ok (.lmul, 1) := by decide +kernel
theorem d_M_findTwo_342 : decode b_M_findTwo 342 = .ok (.lload 12, 2) := by decide +kernel
theorem d_M_findTwo_344 : decode b_M_findTwo 344 = .ok (.lload 6, 2) := by decide +kernel
theorem d_M_findTwo_346 : decode b_M_findTwo 346 = .ok (.lmul, 1) := by decide +kernel
theorem d_M_findTwo_347 : decode b_M_findTwo 347 = .ok (.invokevirtual 163, 3) := by decide +kernel
theorem d_M_findTwo_350 : decode b_M_findTwo 350 = .ok (.goto 23, 3) := by decide +kernel
theorem d_M_findTwo_353 : decode b_M_findTwo 353 = .ok (.aload_n 0, 1) := by decide +kernel
theorem d_M_findTwo_354 : decode b_M_findTwo 354 = .ok (.iconst 0, 1) := by decide +kernel
theorem d_M_findTwo_355 : decode b_M_findTwo 355 = .ok (.lload 10, 2) := by decide +kernel
theorem d_M_findTwo_357 : decode b_M_findTwo 357 = .ok (.lload 4, 2) := by decide +kernel
theorem d_M_findTwo_359 : decode b_M_findTwo 359 = .ok (.lconst 0, 1) := by decide +kernel
theorem d_M_findTwo_360 : decode b_M_findTwo 360 = .ok (.invokevirtual 163, 3) := by decide +kernel
theorem d_M_findTwo_363 : decode b_M_findTwo 363 = .ok (.aload_n 0, 1) := by decide +kernel
theorem d_M_findTwo_364 : decode b_M_findTwo 364 = .ok (.iconst 1, 1) := by decide +kernel
theorem d_M_findTwo_365 : decode b_M_findTwo 365 = .ok (.lload 8, 2) := by decide +kernel
theorem d_M_findTwo_367 : decode b_M_findTwo 367 = .ok (.lconst 0, 1) := by decide +kernel
theorem d_M_findTwo_368 : decode b_M_findTwo 368 = .ok (.lload 4, 2) := by decide +kernel
theorem d_M_findTwo_370 : decode b_M_findTwo 370 = .ok (.invokevirtual 163, 3) := by decide +kernel
theorem d_M_findTwo_373 : decode b_M_findTwo 373 = .ok (.return_, 1) := by decide +kernel
theorem d_M_root_0 : decode b_M_root 0 = .ok (.lconst 0, 1) := by decide +kernel
theorem d_M_root_1 : decode b_M_root 1 = .ok (.lstore_n 2, 1) := by decide +kernel
theorem d_M_root_2 : decode b_M_root 2 = .ok (.lload_n 2, 1) := by decide +kernel
theorem d_M_root_3 : decode b_M_root 3 = .ok (.lload_n 2, 1) := by decide +kernel
theorem d_M_root_4 : decode b_M_root 4 = .ok (.lmul, 1) := by decide +kernel
theorem d_M_root_5 : decode b_M_root 5 = .ok (.lload_n 0, 1) := by decide +kernel
theorem d_M_root_6 : decode b_M_root 6 = .ok (.lcmp, 1) := by decide +kernel
theorem d_M_root_7 : decode b_M_root 7 = .ok (.ifCond .ge 10, 3) := by decide +kernel
theorem d_M_root_10 : decode b_M_root 10 = .ok (.lload_n 2, 1) := by decide +kernel
theorem d_M_root_11 : decode b_M_root 11 = .ok (.lconst 1, 1) := by decide +kernel
theorem d_M_root_12 : decode b_M_root 12 = .ok (.ladd, 1) := by decide +kernel
theorem d_M_root_13 : decode b_M_root 13 = .ok (.lstore_n 2, 1) := by decide +kernel
theorem d_M_root_14 : decode b_M_root 14 = .ok (.goto (-12), 3) := by decide +kernel
theorem d_M_root_17 : decode b_M_root 17 = .ok (.lload_n 2, 1) := by decide +kernel
theorem d_M_root_18 : decode b_M_root 18 = .ok (.lload_n 2, 1) := by decide +kernel
theorem d_M_root_19 : decode b_M_root 19 = .ok (.lmul, 1) := by decide +kernel
theorem d_M_root_20 : decode b_M_root 20 = .ok (.lload_n 0, 1) := by decide +kernel
theorem d_M_root_21 : decode b_M_root 21 = .ok (.lcmp, 1) := by decide +kernel
theorem d_M_root_22 : decode b_M_root 22 = .ok (.ifCond .ne 7, 3) := by decide +kernel
theorem d_M_root_25 : decode b_M_root 25 = .ok (.lload_n 2, 1) := by decide +kernel
theorem d_M_root_26 : decode b_M_root 26 = .ok (.goto 6, 3) := by decide +kernel
theorem d_M_root_29 : decode b_M_root 29 = .ok (.ldc2_w 139, 3) := by decide +kernel
theorem d_M_root_32 : decode b_M_root 32 = .ok (.lreturn, 1) := by decide +kernel
theorem d_M_isSecondFirst_0 : decode b_M_isSecondFirst 0 = .ok (.iconst 0, 1) := by decide +kernel
theorem d_M_isSecondFirst_1 : decode b_M_isSecondFirst 1 = .ok (.istore_n 1, 1) := by decide +kernel
theorem d_M_isSecondFirst_2 : decode b_M_isSecondFirst 2 = .ok (.iload_n 1, 1) := by decide +kernel
theorem d_M_isSecondFirst_3 : decode b_M_isSecondFirst 3 = .ok (.iconst 3, 1) := by decide +kernel
theorem d_M_isSecondFirst_4 : decode b_M_isSecondFirst 4 = .ok (.if_icmp .ge 51, 3) := by decide +kernel
theorem d_M_isSecondFirst_7 : decode b_M_isSecondFirst 7 = .ok (.aload_n 0, 1) := by decide +kernel
theorem d_M_isSecondFirst_8 : decode b_M_isSecondFirst 8 = .ok (.getfield 42, 3) := by decide +kernel
theorem d_M_isSecondFirst_11 : decode b_M_isSecondFirst 11 = .ok (.iload_n 1, 1) := by decide +kernel
theorem d_M_isSecondFirst_12 : decode b_M_isSecondFirst 12 = .ok (.laload, 1) := by decide +kernel
theorem d_M_isSecondFirst_13 : decode b_M_isSecondFirst 13 = .ok (.aload_n 0, 1) := by decide +kernel
theorem d_M_isSecondFirst_14 : decode b_M_isSecondFirst 14 = .ok (.getfield 42, 3) := by decide +kernel
theorem d_M_isSecondFirst_17 : decode b_M_isSecondFirst 17 = .ok (.iconst 3, 1) := by decide +kernel
theorem d_M_isSecondFirst_18 : decode b_M_isSecondFirst 18 = .ok (.iload_n 1, 1) := by decide +kernel
theorem d_M_isSecondFirst_19 : decode b_M_isSecondFirst 19 = .ok (.iadd, 1) := by decide +kernel
theorem d_M_isSecondFirst_20 : decode b_M_isSecondFirst 20 = .ok (.laload, 1) := by decide +kernel
theorem d_M_isSecondFirst_21 : decode b_M_isSecondFirst 21 = .ok (.lcmp, 1) := by decide +kernel
theorem d_M_isSecondFirst_22 : decode b_M_isSecondFirst 22 = .ok (.ifCond .eq 27, 3) := by decide +kernel
theorem d_M_isSecondFirst_25 : decode b_M_isSecondFirst 25 = .ok (.aload_n 0, 1) := by decide +kernel
theorem d_M_isSecondFirst_26 : decode b_M_isSecondFirst 26 = .ok (.getfield 42, 3) := by decide +kernel
theorem d_M_isSecondFirst_29 : decode b_M_isSecondFirst 29 = .ok (.iconst 3, 1) := by decide +kernel
theorem d_M_isSecondFirst_30 : decode b_M_isSecondFirst 30 = .ok (.iload_n 1, 1) := by decide +kernel
theorem d_M_isSecondFirst_31 : decode b_M_isSecondFirst 31 = .ok (.iadd, 1) := by decide +kernel
theorem d_M_isSecondFirst_32 : decode b_M_isSecondFirst 32 = .ok (.laload, 1) := by decide +kernel
theorem d_M_isSecondFirst_33 : decode b_M_isSecondFirst 33 = .ok (.aload_n 0, 1) := by decide +kernel
theorem d_M_isSecondFirst_34 : decode b_M_isSecondFirst 34 = .ok (.getfield 42, 3) := by decide +kernel
theorem d_M_isSecondFirst_37 : decode b_M_isSecondFirst 37 = .ok (.iload_n 1, 1) := by decide +kernel
theorem d_M_isSecondFirst_38 : decode b_M_isSecondFirst 38 = .ok (.laload, 1) := by decide +kernel
theorem d_M_isSecondFirst_39 : decode b_M_isSecondFirst 39 = .ok (.lcmp, 1) := by decide +kernel
theorem d_M_isSecondFirst_40 : decode b_M_isSecondFirst 40 = .ok (.ifCond .ge 7, 3) := by decide +kernel
theorem d_M_isSecondFirst_43 : decode b_M_isSecondFirst 43 = .ok (.iconst 1, 1) := by decide +kernel
theorem d_M_isSecondFirst_44 : decode b_M_isSecondFirst 44 = .ok (.goto 4, 3) := by decide +kernel
theorem d_M_isSecondFirst_47 : decode b_M_isSecondFirst 47 = .ok (.iconst 0, 1) := by decide +kernel
theorem d_M_isSecondFirst_48 : decode b_M_isSecondFirst 48 = .ok (.ireturn, 1) := by decide +kernel
theorem d_M_isSecondFirst_49 : decode b_M_isSecondFirst 49 = .ok (.iinc 1 1, 3) := by decide +kernel
theorem d_M_isSecondFirst_52 : decode b_M_isSecondFirst 52 = .ok (.goto (-50), 3) := by decide +kernel
theorem d_M_isSecondFirst_55 : decode b_M_isSecondFirst 55 = .ok (.iconst 0, 1) := by decide +kernel
theorem d_M_isSecondFirst_56 : decode b_M_isSecondFirst 56 = .ok (.ireturn, 1) := by decide +kernel
theorem d_M_keep_0 : decode b_M_keep 0 = .ok (.aload_n 0, 1) := by decide +kernel
theorem d_M_keep_1 : decode b_M_keep 1 = .ok (.iconst 0, 1) := by decide +kernel
theorem d_M_keep_2 : decode b_M_keep 2 = .ok (.putfield 45, 3) := by decide +kernel
theorem d_M_keep_5 : decode b_M_keep 5 = .ok (.iconst 0, 1) := by decide +kernel
theorem d_M_keep_6 : decode b_M_keep 6 = .ok (.istore_n 1, 1) := by decide +kernel
theorem d_M_keep_7 : decode b_M_keep 7 = .ok (.iload_n 1, 1) := by decide +kernel
theorem d_M_keep_8 : decode b_M_keep 8 = .ok (.bipush 16, 2) := by decide +kernel
theorem d_M_keep_10 : decode b_M_keep 10 = .ok (.if_icmp .ge 21, 3) := by decide +kernel
theorem d_M_keep_13 : decode b_M_keep 13 = .ok (.aload_n 0, 1) := by decide +kernel
theorem d_M_keep_14 : decode b_M_keep 14 = .ok (.getfield 17, 3) := by decide +kernel
theorem d_M_keep_17 : decode b_M_keep 17 = .ok (.iload_n 1, 1) := by decide +kernel
theorem d_M_keep_18 : decode b_M_keep 18 = .ok (.aload_n 0, 1) := by decide +kernel
theorem d_M_keep_19 : decode b_M_keep 19 = .ok (.getfield 13, 3) := by decide +kernel
theorem d_M_keep_22 : decode b_M_keep 22 = .ok (.iload_n 1, 1) := by decide +kernel
theorem d_M_keep_23 : decode b_M_keep 23 = .ok (.iaload, 1) := by decide +kernel
theorem d_M_keep_24 : decode b_M_keep 24 = .ok (.iastore, 1) := by decide +kernel
theorem d_M_keep_25 : decode b_M_keep 25 = .ok (.iinc 1 1, 3) := by decide +kernel
theorem d_M_keep_28 : decode b_M_keep 28 = .ok (.goto (-21), 3) := by decide +kernel
theorem d_M_keep_31 : decode b_M_keep 31 = .ok (.aload_n 0, 1) := by decide +kernel
theorem d_M_keep_32 : decode b_M_keep 32 = .ok (.iconst 1, 1) := by decide +kernel
theorem d_M_keep_33 : decode b_M_keep 33 = .ok (.putfield 48, 3) := by decide +kernel
theorem d_M_keep_36 : decode b_M_keep 36 = .ok (.aload_n 0, 1) := by decide +kernel
theorem d_M_keep_37 : decode b_M_keep 37 = .ok (.invokevirtual 111, 3) := by decide +kernel
theorem d_M_keep_40 : decode b_M_keep 40 = .ok (.ireturn, 1) := by decide +kernel
theorem d_M_alike_0 : decode b_M_alike 0 = .ok (.aload_n 0, 1) := by decide +kernel
theorem d_M_alike_1 : decode b_M_alike 1 = .ok (.iconst 0, 1) := by decide +kernel
theorem d_M_alike_2 : decode b_M_alike 2 = .ok (.putfield 45, 3) := by decide +kernel
theorem d_M_alike_5 : decode b_M_alike 5 = .ok (.aload_n 0, 1) := by decide +kernel
theorem d_M_alike_6 : decode b_M_alike 6 = .ok (.getfield 48, 3) := by decide +kernel
theorem d_M_alike_9 : decode b_M_alike 9 = .ok (.ifCond .ne 6, 3) := by decide +kernel
theorem d_M_alike_12 : decode b_M_alike 12 = .ok (.bipush (-3), 2) := by decide +kernel
theorem d_M_alike_14 : decode b_M_alike 14 = .ok (.ireturn, 1) := by decide +kernel
theorem d_M_alike_15 : decode b_M_alike 15 = .ok (.iconst 0, 1) := by decide +kernel
theorem d_M_alike_16 : decode b_M_alike 16 = .ok (.istore_n 1, 1) := by decide +kernel
theorem d_M_alike_17 : decode b_M_alike 17 = .ok (.iconst 0, 1) := by decide +kernel
theorem d_M_alike_18 : decode b_M_alike 18 = .ok (.istore_n 2, 1) := by decide +kernel
theorem d_M_alike_19 : decode b_M_alike 19 = .ok (.iconst 1, 1) := by decide +kernel
theorem d_M_alike_20 : decode b_M_alike 20 = .ok (.istore_n 3, 1) := by decide +kernel
theorem d_M_alike_21 : decode b_M_alike 21 = .ok (.iconst 0, 1) := by decide +kernel
theorem d_M_alike_22 : decode b_M_alike 22 = .ok (.istore 4, 2) := by decide +kernel
theorem d_M_alike_24 : decode b_M_alike 24 = .ok (.iload 4, 2) := by decide +kernel
theorem d_M_alike_26 : decode b_M_alike 26 = .ok (.bipush 16, 2) := by decide +kernel
theorem d_M_alike_28 : decode b_M_alike 28 = .ok (.if_icmp .ge 108, 3) := by decide +kernel
theorem d_M_alike_31 : decode b_M_alike 31 = .ok (.iload_n 1, 1) := by decide +kernel
theorem d_M_alike_32 : decode b_M_alike 32 = .ok (.ifCond .ne 13, 3) := by decide +kernel
theorem d_M_alike_35 : decode b_M_alike 35 = .ok (.aload_n 0, 1) := by decide +kernel
theorem d_M_alike_36 : decode b_M_alike 36 = .ok (.getfield 13, 3) := by decide +kernel
theorem d_M_alike_39 : decode b_M_alike 39 = .ok (.iload 4, 2) := by decide +kernel
theorem d_M_alike_41 : decode b_M_alike 41 = .ok (.iaload, 1) := by decide +kernel
theorem d_M_alike_42 : decode b_M_alike 42 = .ok (.ifCond .eq 7, 3) := by decide +kernel
theorem d_M_alike_45 : decode b_M_alike 45 = .ok (.iconst 1, 1) := by decide +kernel
theorem d_M_alike_46 : decode b_M_alike 46 = .ok (.goto 4, 3) := by decide +kernel
theorem d_M_alike_49 : decode b_M_alike 49 = .ok (.iconst 0, 1) := by decide +kernel
theorem d_M_alike_50 : decode b_M_alike 50 = .ok (.istore_n 1, 1) := by decide +kernel
theorem d_M_alike_51 : decode b_M_alike 51 = .ok (.iload_n 2, 1) := by decide +kernel
theorem d_M_alike_52 : decode b_M_alike 52 = .ok (.ifCond .ne 13, 3) := by decide +kernel
theorem d_M_alike_55 : decode b_M_alike 55 = .ok (.aload_n 0, 1) := by decide +kernel
theorem d_M_alike_56 : decode b_M_alike 56 = .ok (.getfield 17, 3) := by decide +kernel
theorem d_M_alike_59 : decode b_M_alike 59 = .ok (.iload 4, 2) := by decide +kernel
theorem d_M_alike_61 : decode b_M_alike 61 = .ok (.iaload, 1) := by decide +kernel
theorem d_M_alike_62 : decode b_M_alike 62 = .ok (.ifCond .eq 7, 3) := by decide +kernel
theorem d_M_alike_65 : decode b_M_alike 65 = .ok (.iconst 1, 1) := by decide +kernel
theorem d_M_alike_66 : decode b_M_alike 66 = .ok (.goto 4, 3) := by decide +kernel
theorem d_M_alike_69 : decode b_M_alike 69 = .ok (.iconst 0, 1) := by decide +kernel
theorem d_M_alike_70 : decode b_M_alike 70 = .ok (.istore_n 2, 1) := by decide +kernel
theorem d_M_alike_71 : decode b_M_alike 71 = .ok (.iconst 0, 1) := by decide +kernel
theorem d_M_alike_72 : decode b_M_alike 72 = .ok (.istore 5, 2) := by decide +kernel
theorem d_M_alike_74 : decode b_M_alike 74 = .ok (.iload 5, 2) := by decide +kernel
theorem d_M_alike_76 : decode b_M_alike 76 = .ok (.iload 4, 2) := by decide +kernel
theorem d_M_alike_78 : decode b_M_alike 78 = .ok (.if_icmp .ge 52, 3) := by decide +kernel
theorem d_M_alike_81 : decode b_M_alike 81 = .ok (.iload_n 3, 1) := by decide +kernel
theorem d_M_alike_82 : decode b_M_alike 82 = .ok (.ifCond .eq 40, 3) := by decide +kernel
theorem d_M_alike_85 : decode b_M_alike 85 = .ok (.aload_n 0, 1) := by decide +kernel
theorem d_M_alike_86 : decode b_M_alike 86 = .ok (.getfield 13, 3) := by decide +kernel
theorem d_M_alike_89 : decode b_M_alike 89 = .ok (.iload 4, 2) := by decide +kernel
theorem d_M_alike_91 : decode b_M_alike 91 = .ok (.iaload, 1) := by decide +kernel
theorem d_M_alike_92 : decode b_M_alike 92 = .ok (.aload_n 0, 1) := by decide +kernel
theorem d_M_alike_93 : decode b_M_alike 93 = .ok (.getfield 17, 3) := by decide +kernel
theorem d_M_alike_96 : decode b_M_alike 96 = .ok (.iload 5, 2) := by decide +kernel
theorem d_M_alike_98 : decode b_M_alike 98 = .ok (.iaload, 1) := by decide +kernel
theorem d_M_alike_99 : decode b_M_alike 99 = .ok (.imul, 1) := by decide +kernel
theorem d_M_alike_100 : decode b_M_alike 100 = .ok (.aload_n 0, 1) := by decide +kernel
theorem d_M_alike_101 : decode b_M_alike 101 = .ok (.getfield 13, 3) := by decide +kernel
theorem d_M_alike_104 : decode b_M_alike 104 = .ok (.iload 5, 2) := by decide +kernel
theorem d_M_alike_106 : decode b_M_alike 106 = .ok (.iaload, 1) := by decide +kernel
theorem d_M_alike_107 : decode b_M_alike 107 = .ok (.aload_n 0, 1) := by decide +kernel
theorem d_M_alike_108 : decode b_M_alike 108 = .ok (.getfield 17, 3) := by decide +kernel
theorem d_M_alike_111 : decode b_M_alike 111 = .ok (.iload 4, 2) := by decide +kernel
theorem d_M_alike_113 : decode b_M_alike 113 = .ok (.iaload, 1) := by decide +kernel
theorem d_M_alike_114 : decode b_M_alike 114 = .ok (.imul, 1) := by decide +kernel
theorem d_M_alike_115 : decode b_M_alike 115 = .ok (.if_icmp .ne 7, 3) := by decide +kernel
theorem d_M_alike_118 : decode b_M_alike 118 = .ok (.iconst 1, 1) := by decide +kernel
theorem d_M_alike_119 : decode b_M_alike 119 = .ok (.goto 4, 3) := by decide +kernel
theorem d_M_alike_122 : decode b_M_alike 122 = .ok (.iconst 0, 1) := by decide +kernel
theorem d_M_alike_123 : decode b_M_alike 123 = .ok (.istore_n 3, 1) := by decide +kernel
theorem d_M_alike_124 : decode b_M_alike 124 = .ok (.iinc 5 1, 3) := by decide +kernel
theorem d_M_alike_127 : decode b_M_alike 127 = .ok (.goto (-53), 3) := by decide +kernel
theorem d_M_alike_130 : decode b_M_alike 130 = .ok (.iinc 4 1, 3) := by decide +kernel
theorem d_M_alike_133 : decode b_M_alike 133 = .ok (.goto (-109), 3) := by decide +kernel
theorem d_M_alike_136 : decode b_M_alike 136 = .ok (.iload_n 3, 1) := by decide +kernel
theorem d_M_alike_137 : decode b_M_alike 137 = .ok (.ifCond .eq 12, 3) := by decide +kernel
theorem d_M_alike_140 : decode b_M_alike 140 = .ok (.iload_n 1, 1) := by decide +kernel
theorem d_M_alike_141 : decode b_M_alike 141 = .ok (.iload_n 2, 1) := by decide +kernel
theorem d_M_alike_142 : decode b_M_alike 142 = .ok (.if_icmp .ne 7, 3) := by decide +kernel
theorem d_M_alike_145 : decode b_M_alike 145 = .ok (.iconst 1, 1) := by decide +kernel
theorem d_M_alike_146 : decode b_M_alike 146 = .ok (.goto 4, 3) := by decide +kernel
theorem d_M_alike_149 : decode b_M_alike 149 = .ok (.iconst 0, 1) := by decide +kernel
theorem d_M_alike_150 : decode b_M_alike 150 = .ok (.ireturn, 1) := by decide +kernel
end
section
/-! decode rows of ConicKinds$Table (wip/gen_names.py) -/
theorem d_T_init_0 : decode b_T_init 0 = .ok (.aload_n 0, 1) := by decide +kernel
theorem d_T_init_1 : decode b_T_init 1 = .ok (.invokespecial 3, 3) := by decide +kernel
theorem d_T_init_4 : decode b_T_init 4 = .ok (.aload_n 0, 1) := by decide +kernel
theorem d_T_init_5 : decode b_T_init 5 = .ok (.iconst 0, 1) := by decide +kernel
theorem d_T_init_6 : decode b_T_init 6 = .ok (.putfield 9, 3) := by decide +kernel
theorem d_T_init_9 : decode b_T_init 9 = .ok (.aload_n 0, 1) := by decide +kernel
theorem d_T_init_10 : decode b_T_init 10 = .ok (.bipush 16, 2) := by decide +kernel
theorem d_T_init_12 : decode b_T_init 12 = .ok (.newarray .long, 2) := by decide +kernel
theorem d_T_init_14 : decode b_T_init 14 = .ok (.putfield 15, 3) := by decide +kernel
theorem d_T_init_17 : decode b_T_init 17 = .ok (.aload_n 0, 1) := by decide +kernel
theorem d_T_init_18 : decode b_T_init 18 = .ok (.bipush 16, 2) := by decide +kernel
theorem d_T_init_20 : decode b_T_init 20 = .ok (.newarray .long, 2) := by decide +kernel
theorem d_T_init_22 : decode b_T_init 22 = .ok (.putfield 19, 3) := by decide +kernel
theorem d_T_init_25 : decode b_T_init 25 = .ok (.aload_n 0, 1) := by decide +kernel
theorem d_T_init_26 : decode b_T_init 26 = .ok (.bipush 16, 2) := by decide +kernel
theorem d_T_init_28 : decode b_T_init 28 = .ok (.newarray .long, 2) := by decide +kernel
theorem d_T_init_30 : decode b_T_init 30 = .ok (.putfield 22, 3) := by decide +kernel
theorem d_T_init_33 : decode b_T_init 33 = .ok (.aload_n 0, 1) := by decide +kernel
theorem d_T_init_34 : decode b_T_init 34 = .ok (.iconst 5, 1) := by decide +kernel
theorem d_T_init_35 : decode b_T_init 35 = .ok (.newarray .long, 2) := by decide +kernel
theorem d_T_init_37 : decode b_T_init 37 = .ok (.putfield 25, 3) := by decide +kernel
theorem d_T_init_40 : decode b_T_init 40 = .ok (.return_, 1) := by decide +kernel
theorem d_T_load_0 : decode b_T_load 0 = .ok (.aload_n 0, 1) := by decide +kernel
theorem d_T_load_1 : decode b_T_load 1 = .ok (.iload_n 3, 1) := by decide +kernel
theorem d_T_load_2 : decode b_T_load 2 = .ok (.iload_n 2, 1) := by decide +kernel
theorem d_T_load_3 : decode b_T_load 3 = .ok (.isub, 1) := by decide +kernel
theorem d_T_load_4 : decode b_T_load 4 = .ok (.iconst 1, 1) := by decide +kernel
theorem d_T_load_5 : decode b_T_load 5 = .ok (.iadd, 1) := by decide +kernel
theorem d_T_load_6 : decode b_T_load 6 = .ok (.putfield 9, 3) := by decide +kernel
theorem d_T_load_9 : decode b_T_load 9 = .ok (.iconst 0, 1) := by decide +kernel
theorem d_T_load_10 : decode b_T_load 10 = .ok (.istore 4, 2) := by decide +kernel
theorem d_T_load_12 : decode b_T_load 12 = .ok (.iload 4, 2) := by decide +kernel
theorem d_T_load_14 : decode b_T_load 14 = .ok (.aload_n 0, 1) := by decide +kernel
theorem d_T_load_15 : decode b_T_load 15 = .ok (.getfield 9, 3) := by decide +kernel
theorem d_T_load_18 : decode b_T_load 18 = .ok (.if_icmp .ge 52, 3) := by decide +kernel
theorem d_T_load_21 : decode b_T_load 21 = .ok (.iconst 0, 1) := by decide +kernel
theorem d_T_load_22 : decode b_T_load 22 = .ok (.istore 5, 2) := by decide +kernel
theorem d_T_load_24 : decode b_T_load 24 = .ok (.iload 5, 2) := by decide +kernel
theorem d_T_load_26 : decode b_T_load 26 = .ok (.aload_n 0, 1) := by decide +kernel
theorem d_T_load_27 : decode b_T_load 27 = .ok (.getfield 9, 3) := by decide +kernel
theorem d_T_load_30 : decode b_T_load 30 = .ok (.if_icmp .ge 34, 3) := by decide +kernel
theorem d_T_load_33 : decode b_T_load 33 = .ok (.aload_n 0, 1) := by decide +kernel
theorem d_T_load_34 : decode b_T_load 34 = .ok (.getfield 15, 3) := by decide +kernel
theorem d_T_load_37 : decode b_T_load 37 = .ok (.iload 4, 2) := by decide +kernel
theorem d_T_load_39 : decode b_T_load 39 = .ok (.iload 5, 2) := by decide +kernel
theorem d_T_load_41 : decode b_T_load 41 = .ok (.invokestatic 28, 3) := by decide +kernel
theorem d_T_load_44 : decode b_T_load 44 = .ok (.aload_n 1, 1) := by decide +kernel
theorem d_T_load_45 : decode b_T_load 45 = .ok (.iload_n 2, 1) := by decide +kernel
theorem d_T_load_46 : decode b_T_load 46 = .ok (.iload 4, 2) := by decide +kernel
theorem d_T_load_48 : decode b_T_load 48 = .ok (.iadd, 1) := by decide +kernel
theorem d_T_load_49 : decode b_T_load 49 = .ok (.iload_n 2, 1) := by decide +kernel
theorem d_T_load_50 : decode b_T_load 50 = .ok (.iload 5, 2) := by decide +kernel
theorem d_T_load_52 : decode b_T_load 52 = .ok (.iadd, 1) := by decide +kernel
theorem d_T_load_53 : decode b_T_load 53 = .ok (.invokestatic 28, 3) := by decide +kernel
theorem d_T_load_56 : decode b_T_load 56 = .ok (.laload, 1) := by decide +kernel
theorem d_T_load_57 : decode b_T_load 57 = .ok (.lastore, 1) := by decide +kernel
theorem d_T_load_58 : decode b_T_load 58 = .ok (.iinc 5 1, 3) := by decide +kernel
theorem d_T_load_61 : decode b_T_load 61 = .ok (.goto (-37), 3) := by decide +kernel
theorem d_T_load_64 : decode b_T_load 64 = .ok (.iinc 4 1, 3) := by decide +kernel
theorem d_T_load_67 : decode b_T_load 67 = .ok (.goto (-55), 3) := by decide +kernel
theorem d_T_load_70 : decode b_T_load 70 = .ok (.aload_n 0, 1) := by decide +kernel
theorem d_T_load_71 : decode b_T_load 71 = .ok (.invokevirtual 32, 3) := by decide +kernel
theorem d_T_load_74 : decode b_T_load 74 = .ok (.return_, 1) := by decide +kernel
theorem d_T_expand_0 : decode b_T_expand 0 = .ok (.aload_n 0, 1) := by decide +kernel
theorem d_T_expand_1 : decode b_T_expand 1 = .ok (.getfield 22, 3) := by decide +kernel
theorem d_T_expand_4 : decode b_T_expand 4 = .ok (.lconst 0, 1) := by decide +kernel
theorem d_T_expand_5 : decode b_T_expand 5 = .ok (.invokestatic 35, 3) := by decide +kernel
theorem d_T_expand_8 : decode b_T_expand 8 = .ok (.aload_n 0, 1) := by decide +kernel
theorem d_T_expand_9 : decode b_T_expand 9 = .ok (.getfield 25, 3) := by decide +kernel
theorem d_T_expand_12 : decode b_T_expand 12 = .ok (.aload_n 0, 1) := by decide +kernel
theorem d_T_expand_13 : decode b_T_expand 13 = .ok (.getfield 9, 3) := by decide +kernel
theorem d_T_expand_16 : decode b_T_expand 16 = .ok (.lconst 1, 1) := by decide +kernel
theorem d_T_expand_17 : decode b_T_expand 17 = .ok (.lastore, 1) := by decide +kernel
theorem d_T_expand_18 : decode b_T_expand 18 = .ok (.iconst 1, 1) := by decide +kernel
theorem d_T_expand_19 : decode b_T_expand 19 = .ok (.istore_n 1, 1) := by decide +kernel
theorem d_T_expand_20 : decode b_T_expand 20 = .ok (.iload_n 1, 1) := by decide +kernel
theorem d_T_expand_21 : decode b_T_expand 21 = .ok (.aload_n 0, 1) := by decide +kernel
theorem d_T_expand_22 : decode b_T_expand 22 = .ok (.getfield 9, 3) := by decide +kernel
theorem d_T_expand_25 : decode b_T_expand 25 = .ok (.if_icmp .gt 89, 3) := by decide +kernel
theorem d_T_expand_28 : decode b_T_expand 28 = .ok (.aload_n 0, 1) := by decide +kernel
theorem d_T_expand_29 : decode b_T_expand 29 = .ok (.getfield 22, 3) := by decide +kernel
theorem d_T_expand_32 : decode b_T_expand 32 = .ok (.iconst 0, 1) := by decide +kernel
theorem d_T_expand_33 : decode b_T_expand 33 = .ok (.aload_n 0, 1) := by decide +kernel
theorem d_T_expand_34 : decode b_T_expand 34 = .ok (.getfield 19, 3) := by decide +kernel
theorem d_T_expand_37 : decode b_T_expand 37 = .ok (.iconst 0, 1) := by decide +kernel
theorem d_T_expand_38 : decode b_T_expand 38 = .ok (.bipush 16, 2) := by decide +kernel
theorem d_T_expand_40 : decode b_T_expand 40 = .ok (.invokestatic 41, 3) := by decide +kernel
theorem d_T_expand_43 : decode b_T_expand 43 = .ok (.iconst 0, 1) := by decide +kernel
theorem d_T_expand_44 : decode b_T_expand 44 = .ok (.istore_n 2, 1) := by decide +kernel
theorem d_T_expand_45 : decode b_T_expand 45 = .ok (.iload_n 2, 1) := by decide +kernel
theorem d_T_expand_46 : decode b_T_expand 46 = .ok (.aload_n 0, 1) := by decide +kernel
theorem d_T_expand_47 : decode b_T_expand 47 = .ok (.getfield 9, 3) := by decide +kernel
theorem d_T_expand_50 : decode b_T_expand 50 = .ok (.if_icmp .ge 35, 3) := by decide +kernel
theorem d_T_expand_53 : decode b_T_expand 53 = .ok (.aload_n 0, 1) := by decide +kernel
theorem d_T_expand_54 : decode b_T_expand 54 = .ok (.getfield 19, 3) := by decide +kernel
theorem d_T_expand_57 : decode b_T_expand 57 = .ok (.iload_n 2, 1) := by decide +kernel
theorem d_T_expand_58 : decode b_T_expand 58 = .ok (.iload_n 2, 1) := by decide +kernel
theorem d_T_expand_59 : decode b_T_expand 59 = .ok (.invokestatic 28, 3) := by decide +kernel
theorem d_T_expand_62 : decode b_T_expand 62 = .ok (.dup2, 1) := by decide +kernel
theorem d_T_expand_63 : decode b_T_expand 63 = .ok (.laload, 1) := by decide +kernel
theorem d_T_expand_64 : decode b_T_expand 64 = .ok (.aload_n 0, 1) := by decide +kernel
theorem d_T_expand_65 : decode b_T_expand 65 = .ok (.getfield 25, 3) := by decide +kernel
theorem d_T_expand_68 : decode b_T_expand 68 = .ok (.aload_n 0, 1) := by decide +kernel
theorem d_T_expand_69 : decode b_T_expand 69 = .ok (.getfield 9, 3) := by decide +kernel
theorem d_T_expand_72 : decode b_T_expand 72 = .ok (.iload_n 1, 1) := by decide +kernel
theorem d_T_expand_73 : decode b_T_expand 73 = .ok (.isub, 1) := by decide +kernel
theorem d_T_expand_74 : decode b_T_expand 74 = .ok (.iconst 1, 1) := by decide +kernel
theorem d_T_expand_75 : decode b_T_expand 75 = .ok (.iadd, 1) := by decide +kernel
theorem d_T_expand_76 : decode b_T_expand 76 = .ok (.laload, 1) := by decide +kernel
theorem d_T_expand_77 : decode b_T_expand 77 = .ok (.ladd, 1) := by decide +kernel
theorem d_T_expand_78 : decode b_T_expand 78 = .ok (.lastore, 1) := by decide +kernel
theorem d_T_expand_79 : decode b_T_expand 79 = .ok (.iinc 2 1, 3) := by decide +kernel
theorem d_T_expand_82 : decode b_T_expand 82 = .ok (.goto (-37), 3) := by decide +kernel
theorem d_T_expand_85 : decode b_T_expand 85 = .ok (.aload_n 0, 1) := by decide +kernel
theorem d_T_expand_86 : decode b_T_expand 86 = .ok (.invokevirtual 47, 3) := by decide +kernel
theorem d_T_expand_89 : decode b_T_expand 89 = .ok (.aload_n 0, 1) := by decide +kernel
theorem d_T_expand_90 : decode b_T_expand 90 = .ok (.getfield 25, 3) := by decide +kernel
theorem d_T_expand_93 : decode b_T_expand 93 = .ok (.aload_n 0, 1) := by decide +kernel
theorem d_T_expand_94 : decode b_T_expand 94 = .ok (.getfield 9, 3) := by decide +kernel
theorem d_T_expand_97 : decode b_T_expand 97 = .ok (.iload_n 1, 1) := by decide +kernel
theorem d_T_expand_98 : decode b_T_expand 98 = .ok (.isub, 1) := by decide +kernel
theorem d_T_expand_99 : decode b_T_expand 99 = .ok (.aload_n 0, 1) := by decide +kernel
theorem d_T_expand_100 : decode b_T_expand 100 = .ok (.invokevirtual 50, 3) := by decide +kernel
theorem d_T_expand_103 : decode b_T_expand 103 = .ok (.lneg, 1) := by decide +kernel
theorem d_T_expand_104 : decode b_T_expand 104 = .ok (.iload_n 1, 1) := by decide +kernel
theorem d_T_expand_105 : decode b_T_expand 105 = .ok (.i2l, 1) := by decide +kernel
theorem d_T_expand_106 : decode b_T_expand 106 = .ok (.ldiv, 1) := by decide +kernel
theorem d_T_expand_107 : decode b_T_expand 107 = .ok (.lastore, 1) := by decide +kernel
theorem d_T_expand_108 : decode b_T_expand 108 = .ok (.iinc 1 1, 3) := by decide +kernel
theorem d_T_expand_111 : decode b_T_expand 111 = .ok (.goto (-91), 3) := by decide +kernel
theorem d_T_expand_114 : decode b_T_expand 114 = .ok (.return_, 1) := by decide +kernel
theorem d_T_multiply_0 : decode b_T_multiply 0 = .ok (.iconst 0, 1) := by decide +kernel
theorem d_T_multiply_1 : decode b_T_multiply 1 = .ok (.istore_n 1, 1) := by decide +kernel
theorem d_T_multiply_2 : decode b_T_multiply 2 = .ok (.iload_n 1, 1) := by decide +kernel
theorem d_T_multiply_3 : decode b_T_multiply 3 = .ok (.aload_n 0, 1) := by decide +kernel
theorem d_T_multiply_4 : decode b_T_multiply 4 = .ok (.getfield 9, 3) := by decide +kernel
theorem d_T_multiply_7 : decode b_T_multiply 7 = .ok (.if_icmp .ge 82, 3) := by decide +kernel
theorem d_T_multiply_10 : decode b_T_multiply 10 = .ok (.iconst 0, 1) := by decide +kernel
theorem d_T_multiply_11 : decode b_T_multiply 11 = .ok (.istore_n 2, 1) := by decide +kernel
theorem d_T_multiply_12 : decode b_T_multiply 12 = .ok (.iload_n 2, 1) := by decide +kernel
theorem d_T_multiply_13 : decode b_T_multiply 13 = .ok (.aload_n 0, 1) := by decide +kernel
theorem d_T_multiply_14 : decode b_T_multiply 14 = .ok (.getfield 9, 3) := by decide +kernel
theorem d_T_multiply_17 : decode b_T_multiply 17 = .ok (.if_icmp .ge 66, 3) := by decide +kernel
theorem d_T_multiply_20 : decode b_T_multiply 20 = .ok (.lconst 0, 1) := by decide +kernel
theorem d_T_multiply_21 : decode b_T_multiply 21 = .ok (.lstore_n 3, 1) := by decide +kernel
theorem d_T_multiply_22 : decode b_T_multiply 22 = .ok (.iconst 0, 1) := by decide +kernel
theorem d_T_multiply_23 : decode b_T_multiply 23 = .ok (.istore 5, 2) := by decide +kernel
theorem d_T_multiply_25 : decode b_T_multiply 25 = .ok (.iload 5, 2) := by decide +kernel
theorem d_T_multiply_27 : decode b_T_multiply 27 = .ok (.aload_n 0, 1) := by decide +kernel
theorem d_T_multiply_28 : decode b_T_multiply 28 = .ok (.getfield 9, 3) := by decide +kernel
theorem d_T_multiply_31 : decode b_T_multiply 31 = .ok (.if_icmp .ge 35, 3) := by decide +kernel
theorem d_T_multiply_34 : decode b_T_multiply 34 = .ok (.lload_n 3, 1) := by decide +kernel
theorem d_T_multiply_35 : decode b_T_multiply 35 = .ok (.aload_n 0, 1) := by decide +kernel
theorem d_T_multiply_36 : decode b_T_multiply 36 = .ok (.getfield 15, 3) := by decide +kernel
theorem d_T_multiply_39 : decode b_T_multiply 39 = .ok (.iload_n 1, 1) := by decide +kernel
theorem d_T_multiply_40 : decode b_T_multiply 40 = .ok (.iload 5, 2) := by decide +kernel
theorem d_T_multiply_42 : decode b_T_multiply 42 = .ok (.invokestatic 28, 3) := by decide +kernel
theorem d_T_multiply_45 : decode b_T_multiply 45 = .ok (.laload, 1) := by decide +kernel
theorem d_T_multiply_46 : decode b_T_multiply 46 = .ok (.aload_n 0, 1) := by decide +kernel
theorem d_T_multiply_47 : decode b_T_multiply 47 = .ok (.getfield 19, 3) := by decide +kernel
theorem d_T_multiply_50 : decode b_T_multiply 50 = .ok (.iload 5, 2) := by decide +kernel
theorem d_T_multiply_52 : decode b_T_multiply 52 = .ok (.iload_n 2, 1) := by decide +kernel
theorem d_T_multiply_53 : decode b_T_multiply 53 = .ok (.invokestatic 28, 3) := by decide +kernel
theorem d_T_multiply_56 : decode b_T_multiply 56 = .ok (.laload, 1) := by decide +kernel
theorem d_T_multiply_57 : decode b_T_multiply 57 = .ok (.lmul, 1) := by decide +kernel
theorem d_T_multiply_58 : decode b_T_multiply 58 = .ok (.ladd, 1) := by decide +kernel
theorem d_T_multiply_59 : decode b_T_multiply 59 = .ok (.lstore_n 3, 1) := by decide +kernel
theorem d_T_multiply_60 : decode b_T_multiply 60 = .ok (.iinc 5 1, 3) := by decide +kernel
theorem d_T_multiply_63 : decode b_T_multiply 63 = .ok (.goto (-38), 3) := by decide +kernel
theorem d_T_multiply_66 : decode b_T_multiply 66 = .ok (.aload_n 0, 1) := by decide +kernel
theorem d_T_multiply_67 : decode b_T_multiply 67 = .ok (.getfield 22, 3) := by decide +kernel
theorem d_T_multiply_70 : decode b_T_multiply 70 = .ok (.iload_n 1, 1) := by decide +kernel
theorem d_T_multiply_71 : decode b_T_multiply 71 = .ok (.iload_n 2, 1) := by decide +kernel
theorem d_T_multiply_72 : decode b_T_multiply 72 = .ok (.invokestatic 28, 3) := by decide +kernel
theorem d_T_multiply_75 : decode b_T_multiply 75 = .ok (.lload_n 3, 1) := by decide +kernel
theorem d_T_multiply_76 : decode b_T_multiply 76 = .ok (.lastore, 1) := by decide +kernel
theorem d_T_multiply_77 : decode b_T_multiply 77 = .ok (.iinc 2 1, 3) := by decide +kernel
theorem d_T_multiply_80 : decode b_T_multiply 80 = .ok (.goto (-68), 3) := by decide +kernel
theorem d_T_multiply_83 : decode b_T_multiply 83 = .ok (.iinc 1 1, 3) := by decide +kernel
theorem d_T_multiply_86 : decode b_T_multiply 86 = .ok (.goto (-84), 3) := by decide +kernel
theorem d_T_multiply_89 : decode b_T_multiply 89 = .ok (.return_, 1) := by decide +kernel
theorem d_T_diagonal_0 : decode b_T_diagonal 0 = .ok (.lconst 0, 1) := by decide +kernel
theorem d_T_diagonal_1 : decode b_T_diagonal 1 = .ok (.lstore_n 1, 1) := by decide +kernel
theorem d_T_diagonal_2 : decode b_T_diagonal 2 = .ok (.iconst 0, 1) := by decide +kernel
theorem d_T_diagonal_3 : decode b_T_diagonal 3 = .ok (.istore_n 3, 1) := by decide +kernel
theorem d_T_diagonal_4 : decode b_T_diagonal 4 = .ok (.iload_n 3, 1) := by decide +kernel
theorem d_T_diagonal_5 : decode b_T_diagonal 5 = .ok (.aload_n 0, 1) := by decide +kernel
theorem d_T_diagonal_6 : decode b_T_diagonal 6 = .ok (.getfield 9, 3) := by decide +kernel
theorem d_T_diagonal_9 : decode b_T_diagonal 9 = .ok (.if_icmp .ge 22, 3) := by decide +kernel
theorem d_T_diagonal_12 : decode b_T_diagonal 12 = .ok (.lload_n 1, 1) := by decide +kernel
theorem d_T_diagonal_13 : decode b_T_diagonal 13 = .ok (.aload_n 0, 1) := by decide +kernel
theorem d_T_diagonal_14 : decode b_T_diagonal 14 = .ok (.getfield 22, 3) := by decide +kernel
theorem d_T_diagonal_17 : decode b_T_diagonal 17 = .ok (.iload_n 3, 1) := by decide +kernel
theorem d_T_diagonal_18 : decode b_T_diagonal 18 = .ok (.iload_n 3, 1) := by decide +kernel
theorem d_T_diagonal_19 : decode b_T_diagonal 19 = .ok (.invokestatic 28, 3) := by decide +kernel
theorem d_T_diagonal_22 : decode b_T_diagonal 22 = .ok (.laload, 1) := by decide +kernel
theorem d_T_diagonal_23 : decode b_T_diagonal 23 = .ok (.ladd, 1) := by decide +kernel
theorem d_T_diagonal_24 : decode b_T_diagonal 24 = .ok (.lstore_n 1, 1) := by decide +kernel
theorem d_T_diagonal_25 : decode b_T_diagonal 25 = .ok (.iinc 3 1, 3) := by decide +kernel
theorem d_T_diagonal_28 : decode b_T_diagonal 28 = .ok (.goto (-24), 3) := by decide +kernel
theorem d_T_diagonal_31 : decode b_T_diagonal 31 = .ok (.lload_n 1, 1) := by decide +kernel
theorem d_T_diagonal_32 : decode b_T_diagonal 32 = .ok (.lreturn, 1) := by decide +kernel
theorem d_T_countAbove_0 : decode b_T_countAbove 0 = .ok (.iconst 0, 1) := by decide +kernel
theorem d_T_countAbove_1 : decode b_T_countAbove 1 = .ok (.istore_n 1, 1) := by decide +kernel
theorem d_T_countAbove_2 : decode b_T_countAbove 2 = .ok (.lconst 1, 1) := by decide +kernel
theorem d_T_countAbove_3 : decode b_T_countAbove 3 = .ok (.lstore_n 2, 1) := by decide +kernel
theorem d_T_countAbove_4 : decode b_T_countAbove 4 = .ok (.aload_n 0, 1) := by decide +kernel
theorem d_T_countAbove_5 : decode b_T_countAbove 5 = .ok (.getfield 9, 3) := by decide +kernel
theorem d_T_countAbove_8 : decode b_T_countAbove 8 = .ok (.iconst 1, 1) := by decide +kernel
theorem d_T_countAbove_9 : decode b_T_countAbove 9 = .ok (.isub, 1) := by decide +kernel
theorem d_T_countAbove_10 : decode b_T_countAbove 10 = .ok (.istore 4, 2) := by decide +kernel
theorem d_T_countAbove_12 : decode b_T_countAbove 12 = .ok (.iload 4, 2) := by decide +kernel
theorem d_T_countAbove_14 : decode b_T_countAbove 14 = .ok (.ifCond .lt 62, 3) := by decide +kernel
theorem d_T_countAbove_17 : decode b_T_countAbove 17 = .ok (.aload_n 0, 1) := by decide +kernel
theorem d_T_countAbove_18 : decode b_T_countAbove 18 = .ok (.getfield 25, 3) := by decide +kernel
theorem d_T_countAbove_21 : decode b_T_countAbove 21 = .ok (.iload 4, 2) := by decide +kernel
theorem d_T_countAbove_23 : decode b_T_countAbove 23 = .ok (.laload, 1) := by decide +kernel
theorem d_T_countAbove_24 : decode b_T_countAbove 24 = .ok (.lstore 5, 2) := by decide +kernel
theorem d_T_countAbove_26 : decode b_T_countAbove 26 = .ok (.lload 5, 2) := by decide +kernel
theorem d_T_countAbove_28 : decode b_T_countAbove 28 = .ok (.lconst 0, 1) := by decide +kernel
theorem d_T_countAbove_29 : decode b_T_countAbove 29 = .ok (.lcmp, 1) := by decide +kernel
theorem d_T_countAbove_30 : decode b_T_countAbove 30 = .ok (.ifCond .eq 40, 3) := by decide +kernel
theorem d_T_countAbove_33 : decode b_T_countAbove 33 = .ok (.iload_n 1, 1) := by decide +kernel
theorem d_T_countAbove_34 : decode b_T_countAbove 34 = .ok (.lload 5, 2) := by decide +kernel
theorem d_T_countAbove_36 : decode b_T_countAbove 36 = .ok (.lconst 0, 1) := by decide +kernel
theorem d_T_countAbove_37 : decode b_T_countAbove 37 = .ok (.lcmp, 1) := by decide +kernel
theorem d_T_countAbove_38 : decode b_T_countAbove 38 = .ok (.ifCond .ge 7, 3) := by decide +kernel
theorem d_T_countAbove_41 : decode b_T_countAbove 41 = .ok (.iconst 1, 1) := by decide +kernel
theorem d_T_countAbove_42 : decode b_T_countAbove 42 = .ok (.goto 4, 3) := by decide +kernel
theorem d_T_countAbove_45 : decode b_T_countAbove 45 = .ok (.iconst 0, 1) := by decide +kernel
theorem d_T_countAbove_46 : decode b_T_countAbove 46 = .ok (.lload_n 2, 1) := by decide +kernel
theorem d_T_countAbove_47 : decode b_T_countAbove 47 = .ok (.lconst 0, 1) := by decide +kernel
theorem d_T_countAbove_48 : decode b_T_countAbove 48 = .ok (.lcmp, 1) := by decide +kernel
theorem d_T_countAbove_49 : decode b_T_countAbove 49 = .ok (.ifCond .ge 7, 3) := by decide +kernel
theorem d_T_countAbove_52 : decode b_T_countAbove 52 = .ok (.iconst 1, 1) := by decide +kernel
theorem d_T_countAbove_53 : decode b_T_countAbove 53 = .ok (.goto 4, 3) := by decide +kernel
theorem d_T_countAbove_56 : decode b_T_countAbove 56 = .ok (.iconst 0, 1) := by decide +kernel
theorem d_T_countAbove_57 : decode b_T_countAbove 57 = .ok (.if_icmp .eq 7, 3) := by decide +kernel
theorem d_T_countAbove_60 : decode b_T_countAbove 60 = .ok (.iconst 1, 1) := by decide +kernel
theorem d_T_countAbove_61 : decode b_T_countAbove 61 = .ok (.goto 4, 3) := by decide +kernel
theorem d_T_countAbove_64 : decode b_T_countAbove 64 = .ok (.iconst 0, 1) := by decide +kernel
theorem d_T_countAbove_65 : decode b_T_countAbove 65 = .ok (.iadd, 1) := by decide +kernel
theorem d_T_countAbove_66 : decode b_T_countAbove 66 = .ok (.istore_n 1, 1) := by decide +kernel
theorem d_T_countAbove_67 : decode b_T_countAbove 67 = .ok (.lload 5, 2) := by decide +kernel
theorem d_T_countAbove_69 : decode b_T_countAbove 69 = .ok (.lstore_n 2, 1) := by decide +kernel
theorem d_T_countAbove_70 : decode b_T_countAbove 70 = .ok (.iinc 4 (-1), 3) := by decide +kernel
theorem d_T_countAbove_73 : decode b_T_countAbove 73 = .ok (.goto (-61), 3) := by decide +kernel
theorem d_T_countAbove_76 : decode b_T_countAbove 76 = .ok (.iload_n 1, 1) := by decide +kernel
theorem d_T_countAbove_77 : decode b_T_countAbove 77 = .ok (.ireturn, 1) := by decide +kernel
theorem d_T_countBelow_0 : decode b_T_countBelow 0 = .ok (.aload_n 0, 1) := by decide +kernel
theorem d_T_countBelow_1 : decode b_T_countBelow 1 = .ok (.invokevirtual 54, 3) := by decide +kernel
theorem d_T_countBelow_4 : decode b_T_countBelow 4 = .ok (.aload_n 0, 1) := by decide +kernel
theorem d_T_countBelow_5 : decode b_T_countBelow 5 = .ok (.invokevirtual 58, 3) := by decide +kernel
theorem d_T_countBelow_8 : decode b_T_countBelow 8 = .ok (.isub, 1) := by decide +kernel
theorem d_T_countBelow_9 : decode b_T_countBelow 9 = .ok (.ireturn, 1) := by decide +kernel
theorem d_T_rank_0 : decode b_T_rank 0 = .ok (.iconst 0, 1) := by decide +kernel
theorem d_T_rank_1 : decode b_T_rank 1 = .ok (.istore_n 1, 1) := by decide +kernel
theorem d_T_rank_2 : decode b_T_rank 2 = .ok (.iload_n 1, 1) := by decide +kernel
theorem d_T_rank_3 : decode b_T_rank 3 = .ok (.aload_n 0, 1) := by decide +kernel
theorem d_T_rank_4 : decode b_T_rank 4 = .ok (.getfield 9, 3) := by decide +kernel
theorem d_T_rank_7 : decode b_T_rank 7 = .ok (.if_icmp .ge 20, 3) := by decide +kernel
theorem d_T_rank_10 : decode b_T_rank 10 = .ok (.aload_n 0, 1) := by decide +kernel
theorem d_T_rank_11 : decode b_T_rank 11 = .ok (.getfield 25, 3) := by decide +kernel
theorem d_T_rank_14 : decode b_T_rank 14 = .ok (.iload_n 1, 1) := by decide +kernel
theorem d_T_rank_15 : decode b_T_rank 15 = .ok (.laload, 1) := by decide +kernel
theorem d_T_rank_16 : decode b_T_rank 16 = .ok (.lconst 0, 1) := by decide +kernel
theorem d_T_rank_17 : decode b_T_rank 17 = .ok (.lcmp, 1) := by decide +kernel
theorem d_T_rank_18 : decode b_T_rank 18 = .ok (.ifCond .ne 9, 3) := by decide +kernel
theorem d_T_rank_21 : decode b_T_rank 21 = .ok (.iinc 1 1, 3) := by decide +kernel
theorem d_T_rank_24 : decode b_T_rank 24 = .ok (.goto (-22), 3) := by decide +kernel
theorem d_T_rank_27 : decode b_T_rank 27 = .ok (.aload_n 0, 1) := by decide +kernel
theorem d_T_rank_28 : decode b_T_rank 28 = .ok (.getfield 9, 3) := by decide +kernel
theorem d_T_rank_31 : decode b_T_rank 31 = .ok (.iload_n 1, 1) := by decide +kernel
theorem d_T_rank_32 : decode b_T_rank 32 = .ok (.isub, 1) := by decide +kernel
theorem d_T_rank_33 : decode b_T_rank 33 = .ok (.ireturn, 1) := by decide +kernel
theorem d_T_sumOfValues_0 : decode b_T_sumOfValues 0 = .ok (.aload_n 0, 1) := by decide +kernel
theorem d_T_sumOfValues_1 : decode b_T_sumOfValues 1 = .ok (.getfield 9, 3) := by decide +kernel
theorem d_T_sumOfValues_4 : decode b_T_sumOfValues 4 = .ok (.iconst 1, 1) := by decide +kernel
theorem d_T_sumOfValues_5 : decode b_T_sumOfValues 5 = .ok (.if_icmp .ge 7, 3) := by decide +kernel
theorem d_T_sumOfValues_8 : decode b_T_sumOfValues 8 = .ok (.lconst 0, 1) := by decide +kernel
theorem d_T_sumOfValues_9 : decode b_T_sumOfValues 9 = .ok (.goto 15, 3) := by decide +kernel
theorem d_T_sumOfValues_12 : decode b_T_sumOfValues 12 = .ok (.aload_n 0, 1) := by decide +kernel
theorem d_T_sumOfValues_13 : decode b_T_sumOfValues 13 = .ok (.getfield 25, 3) := by decide +kernel
theorem d_T_sumOfValues_16 : decode b_T_sumOfValues 16 = .ok (.aload_n 0, 1) := by decide +kernel
theorem d_T_sumOfValues_17 : decode b_T_sumOfValues 17 = .ok (.getfield 9, 3) := by decide +kernel
theorem d_T_sumOfValues_20 : decode b_T_sumOfValues 20 = .ok (.iconst 1, 1) := by decide +kernel
theorem d_T_sumOfValues_21 : decode b_T_sumOfValues 21 = .ok (.isub, 1) := by decide +kernel
theorem d_T_sumOfValues_22 : decode b_T_sumOfValues 22 = .ok (.laload, 1) := by decide +kernel
theorem d_T_sumOfValues_23 : decode b_T_sumOfValues 23 = .ok (.lneg, 1) := by decide +kernel
theorem d_T_sumOfValues_24 : decode b_T_sumOfValues 24 = .ok (.lreturn, 1) := by decide +kernel
theorem d_T_sumOfPairs_0 : decode b_T_sumOfPairs 0 = .ok (.aload_n 0, 1) := by decide +kernel
theorem d_T_sumOfPairs_1 : decode b_T_sumOfPairs 1 = .ok (.getfield 9, 3) := by decide +kernel
theorem d_T_sumOfPairs_4 : decode b_T_sumOfPairs 4 = .ok (.iconst 2, 1) := by decide +kernel
theorem d_T_sumOfPairs_5 : decode b_T_sumOfPairs 5 = .ok (.if_icmp .ge 7, 3) := by decide +kernel
theorem d_T_sumOfPairs_8 : decode b_T_sumOfPairs 8 = .ok (.lconst 0, 1) := by decide +kernel
theorem d_T_sumOfPairs_9 : decode b_T_sumOfPairs 9 = .ok (.goto 14, 3) := by decide +kernel
theorem d_T_sumOfPairs_12 : decode b_T_sumOfPairs 12 = .ok (.aload_n 0, 1) := by decide +kernel
theorem d_T_sumOfPairs_13 : decode b_T_sumOfPairs 13 = .ok (.getfield 25, 3) := by decide +kernel
theorem d_T_sumOfPairs_16 : decode b_T_sumOfPairs 16 = .ok (.aload_n 0, 1) := by decide +kernel
theorem d_T_sumOfPairs_17 : decode b_T_sumOfPairs 17 = .ok (.getfield 9, 3) := by decide +kernel
theorem d_T_sumOfPairs_20 : decode b_T_sumOfPairs 20 = .ok (.iconst 2, 1) := by decide +kernel
theorem d_T_sumOfPairs_21 : decode b_T_sumOfPairs 21 = .ok (.isub, 1) := by decide +kernel
theorem d_T_sumOfPairs_22 : decode b_T_sumOfPairs 22 = .ok (.laload, 1) := by decide +kernel
theorem d_T_sumOfPairs_23 : decode b_T_sumOfPairs 23 = .ok (.lreturn, 1) := by decide +kernel
theorem d_T_productOfValues_0 : decode b_T_productOfValues 0 = .ok (.aload_n 0, 1) := by decide +kernel
theorem d_T_productOfValues_1 : decode b_T_productOfValues 1 = .ok (.getfield 9, 3) := by decide +kernel
theorem d_T_productOfValues_4 : decode b_T_productOfValues 4 = .ok (.iconst 2, 1) := by decide +kernel
theorem d_T_productOfValues_5 : decode b_T_productOfValues 5 = .ok (.irem, 1) := by decide +kernel
theorem d_T_productOfValues_6 : decode b_T_productOfValues 6 = .ok (.ifCond .ne 12, 3) := by decide +kernel
theorem d_T_productOfValues_9 : decode b_T_productOfValues 9 = .ok (.aload_n 0, 1) := by decide +kernel
theorem d_T_productOfValues_10 : decode b_T_productOfValues 10 = .ok (.getfield 25, 3) := by decide +kernel
theorem d_T_productOfValues_13 : decode b_T_productOfValues 13 = .ok (.iconst 0, 1) := by decide +kernel
theorem d_T_productOfValues_14 : decode b_T_productOfValues 14 = .ok (.laload, 1) := by decide +kernel
theorem d_T_productOfValues_15 : decode b_T_productOfValues 15 = .ok (.goto 10, 3) := by decide +kernel
theorem d_T_productOfValues_18 : decode b_T_productOfValues 18 = .ok (.aload_n 0, 1) := by decide +kernel
theorem d_T_productOfValues_19 : decode b_T_productOfValues 19 = .ok (.getfield 25, 3) := by decide +kernel
theorem d_T_productOfValues_22 : decode b_T_productOfValues 22 = .ok (.iconst 0, 1) := by decide +kernel
theorem d_T_productOfValues_23 : decode b_T_productOfValues 23 = .ok (.laload, 1) := by decide +kernel
theorem d_T_productOfValues_24 : decode b_T_productOfValues 24 = .ok (.lneg, 1) := by decide +kernel
theorem d_T_productOfValues_25 : decode b_T_productOfValues 25 = .ok (.lreturn, 1) := by decide +kernel
theorem d_T_adjugate_0 : decode b_T_adjugate 0 = .ok (.aload_n 0, 1) := by decide +kernel
theorem d_T_adjugate_1 : decode b_T_adjugate 1 = .ok (.getfield 9, 3) := by decide +kernel
theorem d_T_adjugate_4 : decode b_T_adjugate 4 = .ok (.iconst 2, 1) := by decide +kernel
theorem d_T_adjugate_5 : decode b_T_adjugate 5 = .ok (.irem, 1) := by decide +kernel
theorem d_T_adjugate_6 : decode b_T_adjugate 6 = .ok (.ifCond .ne 17, 3) := by decide +kernel
theorem d_T_adjugate_9 : decode b_T_adjugate 9 = .ok (.aload_n 0, 1) := by decide +kernel
theorem d_T_adjugate_10 : decode b_T_adjugate 10 = .ok (.getfield 19, 3) := by decide +kernel
theorem d_T_adjugate_13 : decode b_T_adjugate 13 = .ok (.iload_n 1, 1) := by decide +kernel
theorem d_T_adjugate_14 : decode b_T_adjugate 14 = .ok (.iload_n 2, 1) := by decide +kernel
theorem d_T_adjugate_15 : decode b_T_adjugate 15 = .ok (.invokestatic 28, 3) := by decide +kernel
theorem d_T_adjugate_18 : decode b_T_adjugate 18 = .ok (.laload, 1) := by decide +kernel
theorem d_T_adjugate_19 : decode b_T_adjugate 19 = .ok (.lneg, 1) := by decide +kernel
theorem d_T_adjugate_20 : decode b_T_adjugate 20 = .ok (.goto 13, 3) := by decide +kernel
theorem d_T_adjugate_23 : decode b_T_adjugate 23 = .ok (.aload_n 0, 1) := by decide +kernel
theorem d_T_adjugate_24 : decode b_T_adjugate 24 = .ok (.getfield 19, 3) := by decide +kernel
theorem d_T_adjugate_27 : decode b_T_adjugate 27 = .ok (.iload_n 1, 1) := by decide +kernel
theorem d_T_adjugate_28 : decode b_T_adjugate 28 = .ok (.iload_n 2, 1) := by decide +kernel
theorem d_T_adjugate_29 : decode b_T_adjugate 29 = .ok (.invokestatic 28, 3) := by decide +kernel
theorem d_T_adjugate_32 : decode b_T_adjugate 32 = .ok (.laload, 1) := by decide +kernel
theorem d_T_adjugate_33 : decode b_T_adjugate 33 = .ok (.lreturn, 1) := by decide +kernel
theorem d_T_countUnlike_0 : decode b_T_countUnlike 0 = .ok (.aload_n 0, 1) := by decide +kernel
theorem d_T_countUnlike_1 : decode b_T_countUnlike 1 = .ok (.invokevirtual 61, 3) := by decide +kernel
theorem d_T_countUnlike_4 : decode b_T_countUnlike 4 = .ok (.lstore_n 1, 1) := by decide +kernel
theorem d_T_countUnlike_5 : decode b_T_countUnlike 5 = .ok (.aload_n 0, 1) := by decide +kernel
theorem d_T_countUnlike_6 : decode b_T_countUnlike 6 = .ok (.invokevirtual 64, 3) := by decide +kernel
theorem d_T_countUnlike_9 : decode b_T_countUnlike 9 = .ok (.lstore_n 3, 1) := by decide +kernel
theorem d_T_countUnlike_10 : decode b_T_countUnlike 10 = .ok (.aload_n 0, 1) := by decide +kernel
theorem d_T_countUnlike_11 : decode b_T_countUnlike 11 = .ok (.getfield 9, 3) := by decide +kernel
theorem d_T_countUnlike_14 : decode b_T_countUnlike 14 = .ok (.iconst 2, 1) := by decide +kernel
theorem d_T_countUnlike_15 : decode b_T_countUnlike 15 = .ok (.if_icmp .ne 21, 3) := by decide +kernel
theorem d_T_countUnlike_18 : decode b_T_countUnlike 18 = .ok (.lload_n 1, 1) := by decide +kernel
theorem d_T_countUnlike_19 : decode b_T_countUnlike 19 = .ok (.lload_n 1, 1) := by decide +kernel
theorem d_T_countUnlike_20 : decode b_T_countUnlike 20 = .ok (.lmul, 1) := by decide +kernel
theorem d_T_countUnlike_21 : decode b_T_countUnlike 21 = .ok (.ldc2_w 67, 3) := by decide +kernel
theorem d_T_countUnlike_24 : decode b_T_countUnlike 24 = .ok (.lload_n 3, 1) := by decide +kernel
theorem d_T_countUnlike_25 : decode b_T_countUnlike 25 = .ok (.lmul, 1) := by decide +kernel
theorem d_T_countUnlike_26 : decode b_T_countUnlike 26 = .ok (.lcmp, 1) := by decide +kernel
theorem d_T_countUnlike_27 : decode b_T_countUnlike 27 = .ok (.ifCond .ne 7, 3) := by decide +kernel
theorem d_T_countUnlike_30 : decode b_T_countUnlike 30 = .ok (.iconst 1, 1) := by decide +kernel
theorem d_T_countUnlike_31 : decode b_T_countUnlike 31 = .ok (.goto 4, 3) := by decide +kernel
theorem d_T_countUnlike_34 : decode b_T_countUnlike 34 = .ok (.iconst 2, 1) := by decide +kernel
theorem d_T_countUnlike_35 : decode b_T_countUnlike 35 = .ok (.ireturn, 1) := by decide +kernel
theorem d_T_countUnlike_36 : decode b_T_countUnlike 36 = .ok (.lload_n 1, 1) := by decide +kernel
theorem d_T_countUnlike_37 : decode b_T_countUnlike 37 = .ok (.lload_n 1, 1) := by decide +kernel
theorem d_T_countUnlike_38 : decode b_T_countUnlike 38 = .ok (.lmul, 1) := by decide +kernel
theorem d_T_countUnlike_39 : decode b_T_countUnlike 39 = .ok (.ldc2_w 69, 3) := by decide +kernel
theorem d_T_countUnlike_42 : decode b_T_countUnlike 42 = .ok (.lload_n 3, 1) := by decide +kernel
theorem d_T_countUnlike_43 : decode b_T_countUnlike 43 = .ok (.lmul, 1) := by decide +kernel
theorem d_T_countUnlike_44 : decode b_T_countUnlike 44 = .ok (.lcmp, 1) := by decide +kernel
theorem d_T_countUnlike_45 : decode b_T_countUnlike 45 = .ok (.ifCond .ne 5, 3) := by decide +kernel
theorem d_T_countUnlike_48 : decode b_T_countUnlike 48 = .ok (.iconst 1, 1) := by decide +kernel
theorem d_T_countUnlike_49 : decode b_T_countUnlike 49 = .ok (.ireturn, 1) := by decide +kernel
theorem d_T_countUnlike_50 : decode b_T_countUnlike 50 = .ok (.lload_n 1, 1) := by decide +kernel
theorem d_T_countUnlike_51 : decode b_T_countUnlike 51 = .ok (.lload_n 3, 1) := by decide +kernel
theorem d_T_countUnlike_52 : decode b_T_countUnlike 52 = .ok (.aload_n 0, 1) := by decide +kernel
theorem d_T_countUnlike_53 : decode b_T_countUnlike 53 = .ok (.invokevirtual 71, 3) := by decide +kernel
theorem d_T_countUnlike_56 : decode b_T_countUnlike 56 = .ok (.invokestatic 74, 3) := by decide +kernel
theorem d_T_countUnlike_59 : decode b_T_countUnlike 59 = .ok (.lconst 0, 1) := by decide +kernel
theorem d_T_countUnlike_60 : decode b_T_countUnlike 60 = .ok (.lcmp, 1) := by decide +kernel
theorem d_T_countUnlike_61 : decode b_T_countUnlike 61 = .ok (.ifCond .ne 7, 3) := by decide +kernel
theorem d_T_countUnlike_64 : decode b_T_countUnlike 64 = .ok (.iconst 2, 1) := by decide +kernel
theorem d_T_countUnlike_65 : decode b_T_countUnlike 65 = .ok (.goto 4, 3) := by decide +kernel
theorem d_T_countUnlike_68 : decode b_T_countUnlike 68 = .ok (.iconst 3, 1) := by decide +kernel
theorem d_T_countUnlike_69 : decode b_T_countUnlike 69 = .ok (.ireturn, 1) := by decide +kernel
theorem d_T_discriminant_0 : decode b_T_discriminant 0 = .ok (.lload_n 0, 1) := by decide +kernel
theorem d_T_discriminant_1 : decode b_T_discriminant 1 = .ok (.lload_n 0, 1) := by decide +kernel
theorem d_T_discriminant_2 : decode b_T_discriminant 2 = .ok (.lmul, 1) := by decide +kernel
theorem d_T_discriminant_3 : decode b_T_discriminant 3 = .ok (.lload_n 2, 1) := by decide +kernel
theorem d_T_discriminant_4 : decode b_T_discriminant 4 = .ok (.lmul, 1) := by decide +kernel
theorem d_T_discriminant_5 : decode b_T_discriminant 5 = .ok (.lload_n 2, 1) := by decide +kernel
theorem d_T_discriminant_6 : decode b_T_discriminant 6 = .ok (.lmul, 1) := by decide +kernel
theorem d_T_discriminant_7 : decode b_T_discriminant 7 = .ok (.ldc2_w 67, 3) := by decide +kernel
theorem d_T_discriminant_10 : decode b_T_discriminant 10 = .ok (.lload_n 2, 1) := by decide +kernel
theorem d_T_discriminant_11 : decode b_T_discriminant 11 = .ok (.lmul, 1) := by decide +kernel
theorem d_T_discriminant_12 : decode b_T_discriminant 12 = .ok (.lload_n 2, 1) := by decide +kernel
theorem d_T_discriminant_13 : decode b_T_discriminant 13 = .ok (.lmul, 1) := by decide +kernel
theorem d_T_discriminant_14 : decode b_T_discriminant 14 = .ok (.lload_n 2, 1) := by decide +kernel
theorem d_T_discriminant_15 : decode b_T_discriminant 15 = .ok (.lmul, 1) := by decide +kernel
theorem d_T_discriminant_16 : decode b_T_discriminant 16 = .ok (.lsub, 1) := by decide +kernel
theorem d_T_discriminant_17 : decode b_T_discriminant 17 = .ok (.ldc2_w 67, 3) := by decide +kernel
theorem d_T_discriminant_20 : decode b_T_discriminant 20 = .ok (.lload_n 0, 1) := by decide +kernel
theorem d_T_discriminant_21 : decode b_T_discriminant 21 = .ok (.lmul, 1) := by decide +kernel
theorem d_T_discriminant_22 : decode b_T_discriminant 22 = .ok (.lload_n 0, 1) := by decide +kernel
theorem d_T_discriminant_23 : decode b_T_discriminant 23 = .ok (.lmul, 1) := by decide +kernel
theorem d_T_discriminant_24 : decode b_T_discriminant 24 = .ok (.lload_n 0, 1) := by decide +kernel
theorem d_T_discriminant_25 : decode b_T_discriminant 25 = .ok (.lmul, 1) := by decide +kernel
theorem d_T_discriminant_26 : decode b_T_discriminant 26 = .ok (.lload 4, 2) := by decide +kernel
theorem d_T_discriminant_28 : decode b_T_discriminant 28 = .ok (.lmul, 1) := by decide +kernel
theorem d_T_discriminant_29 : decode b_T_discriminant 29 = .ok (.lsub, 1) := by decide +kernel
theorem d_T_discriminant_30 : decode b_T_discriminant 30 = .ok (.ldc2_w 78, 3) := by decide +kernel
theorem d_T_discriminant_33 : decode b_T_discriminant 33 = .ok (.lload_n 0, 1) := by decide +kernel
theorem d_T_discriminant_34 : decode b_T_discriminant 34 = .ok (.lmul, 1) := by decide +kernel
theorem d_T_discriminant_35 : decode b_T_discriminant 35 = .ok (.lload_n 2, 1) := by decide +kernel
theorem d_T_discriminant_36 : decode b_T_discriminant 36 = .ok (.lmul, 1) := by decide +kernel
theorem d_T_discriminant_37 : decode b_T_discriminant 37 = .ok (.lload 4, 2) := by decide +kernel
theorem d_T_discriminant_39 : decode b_T_discriminant 39 = .ok (.lmul, 1) := by decide +kernel
theorem d_T_discriminant_40 : decode b_T_discriminant 40 = .ok (.ladd, 1) := by decide +kernel
theorem d_T_discriminant_41 : decode b_T_discriminant 41 = .ok (.ldc2_w 80, 3) := by decide +kernel
theorem d_T_discriminant_44 : decode b_T_discriminant 44 = .ok (.lload 4, 2) := by decide +kernel
theorem d_T_discriminant_46 : decode b_T_discriminant 46 = .ok (.lmul, 1) := by decide +kernel
theorem d_T_discriminant_47 : decode b_T_discriminant 47 = .ok (.lload 4, 2) := by decide +kernel
theorem d_T_discriminant_49 : decode b_T_discriminant 49 = .ok (.lmul, 1) := by decide +kernel
theorem d_T_discriminant_50 : decode b_T_discriminant 50 = .ok (.lsub, 1) := by decide +kernel
theorem d_T_discriminant_51 : decode b_T_discriminant 51 = .ok (.lreturn, 1) := by decide +kernel
end
section
/-! Rows of my own over the kit's: longs by whole numbers (lI), ints by naturals (nI), contracts in one shape. -/
section XB1
/-- a whole number that a long holds -/
def lB (x : Int) : Prop := -9223372036854775808 ≤ x ∧ x < 9223372036854775808
theorem lB_0 : lB 0 := ⟨by decide, by decide⟩
theorem lI_add (x y : Int) : lI x + lI y = lI (x + y) := (Int64.ofInt_add x y).symm
theorem lI_sub (x y : Int) : lI x - lI y = lI (x - y) := (Int64.ofInt_sub x y).symm
theorem lI_mul (x y : Int) : lI x * lI y = lI (x * y) := (Int64.ofInt_mul x y).symm
theorem lI_neg (x : Int) : -lI x = lI (-x) := (Int64.ofInt_neg x).symm
theorem lI_toInt {x : Int} (h : lB x) : (lI x).toInt = x := by
  obtain ⟨h1, h2⟩ := h
  exact Int64.toInt_ofInt_of_le (by omega) (by omega)
theorem lI_eq {x y : Int} (hx : lB x) (hy : lB y) : lI x = lI y ↔ x = y := by
  constructor
  · intro h
    have := congrArg Int64.toInt h
    rwa [lI_toInt hx, lI_toInt hy] at this
  · intro h; rw [h]
theorem lI_lt {x y : Int} (hx : lB x) (hy : lB y) : lI x < lI y ↔ x < y := by
  rw [Int64.lt_iff_toInt_lt, lI_toInt hx, lI_toInt hy]
theorem lI_le {x y : Int} (hx : lB x) (hy : lB y) : lI x ≤ lI y ↔ x ≤ y := by
  rw [Int64.le_iff_toInt_le, lI_toInt hx, lI_toInt hy]
theorem lI_nI {n : Nat} (h : n < 2 ^ 31) : (nI n).toInt64 = lI (n : Int) := by
  show Int64.ofInt (nI n).toInt = _
  rw [nI_toInt h]; rfl
theorem lI_inj64 (v : Int64) : lI v.toInt = v := Int64.ofInt_toInt v
theorem lB_i (v : Int32) : lB v.toInt := by
  have h1 := Int32.le_toInt v
  have h2 := Int32.toInt_lt v
  exact ⟨by omega, by omega⟩
theorem lI_div {x y : Int} (hx : lB x) (hy : lB y) (h : ¬ (x = -9223372036854775808 ∧ y = -1)) : lI x / lI y = lI (x.tdiv y) := by
  rw [← Int64.toInt_inj]
  by_cases hm : x = -9223372036854775808
  · have hne : lI y ≠ -1 := by
      intro q
      have := congrArg Int64.toInt q
      rw [lI_toInt hy] at this
      exact h ⟨hm, this⟩
    have e := Int64.toInt_div_of_ne_right (lI x) (lI y) hne
    rw [lI_toInt hx, lI_toInt hy] at e
    have h1 := Int64.le_toInt (lI x / lI y)
    have h2 := Int64.toInt_lt (lI x / lI y)
    rw [e] at h1 h2
    rw [e, lI_toInt ⟨by omega, by omega⟩]
  · have hne : lI x ≠ Int64.minValue := by
      intro q
      have := congrArg Int64.toInt q
      rw [lI_toInt hx] at this
      exact hm this
    have e := Int64.toInt_div_of_ne_left (lI x) (lI y) hne
    rw [lI_toInt hx, lI_toInt hy] at e
    have h1 := Int64.le_toInt (lI x / lI y)
    have h2 := Int64.toInt_lt (lI x / lI y)
    rw [e] at h1 h2
    rw [e, lI_toInt ⟨by omega, by omega⟩]
theorem lI_rem {x y : Int} (hx : lB x) (hy : lB y) (h : ¬ (x = -9223372036854775808 ∧ y = -1)) : lI x - lI x / lI y * lI y = lI (x.tmod y) := by
  rw [lI_div hx hy h, lI_mul, lI_sub]
  congr 1
  have := Int.mul_tdiv_add_tmod x y
  have e : x.tdiv y * y = y * x.tdiv y := Int.mul_comm _ _
  omega
theorem lg_cmp_lI {x y : Int} (hx : lB x) (hy : lB y) : (lg_cmp (lI x) (lI y)).toInt = if y < x then 1 else if x = y then 0 else -1 := by
  unfold lg_cmp
  have e1 : (lI x > lI y) ↔ y < x := lI_lt hy hx
  have e2 := lI_eq hx hy
  by_cases h1 : y < x
  · rw [if_pos (e1.mpr h1), if_pos h1]; rfl
  · rw [if_neg (fun q => h1 (e1.mp q)), if_neg h1]
    by_cases h2 : x = y
    · rw [if_pos (e2.mpr h2), if_pos h2]; rfl
    · rw [if_neg (fun q => h2 (e2.mp q)), if_neg h2]; rfl
theorem i0_iff (v : Int32) : v = 0 ↔ v.toInt = 0 := by
  rw [← Int32.toInt_inj]; rfl
/-- an array of longs, by whole numbers -/
def LA (c0 : ClassId) (n : Nat) (F : Nat → Int) : va_E := .inl (c0, n, .inr (.inl (fun k => lI (F k))))
def upZ (F : Nat → Int) (k : Nat) (x : Int) : Nat → Int := fun j => if j = k then x else F j
theorem upZ_at (F : Nat → Int) (k : Nat) (x : Int) : upZ F k x k = x := if_pos rfl
theorem upZ_ne (F : Nat → Int) {k j : Nat} (x : Int) (h : j ≠ k) : upZ F k x j = F j := if_neg h
theorem LA_up (F : Nat → Int) (k : Nat) (x : Int) : vp_updL (fun k => lI (F k)) k (lI x) = fun j => lI (upZ F k x j) := by
  funext j
  unfold vp_updL upZ
  split <;> rfl
def cpZ (F G : Nat → Int) (n : Nat) : Nat → Int := fun k => if k < n then F k else G k
theorem cpZ_lt (F G : Nat → Int) {n k : Nat} (h : k < n) : cpZ F G n k = F k := if_pos h
theorem LA_cpy (F G : Nat → Int) (n : Nat) : va_cpy (fun k => lI (F k)) (fun k => lI (G k)) 0 0 n = fun k => lI (cpZ F G n k) := by
  funext k
  unfold va_cpy cpZ
  by_cases h : k < n
  · rw [if_pos ⟨Nat.zero_le _, by omega⟩, if_pos h, Nat.zero_add, Nat.sub_zero]
  · rw [if_neg (fun q => h (by omega)), if_neg h]
theorem lI_abs {x : Int} (hx : lB x) : (if 0 < lI x then lI x else -lI x) = lI (x.natAbs : Nat) := by
  have e : (0 : Int64) < lI x ↔ 0 < x := lI_lt (x := 0) lB_0 hx
  by_cases h : 0 < x
  · rw [if_pos (e.mpr h)]; congr 1; omega
  · rw [if_neg (fun q => h (e.mp q)), lI_neg]; congr 1; omega
end XB1
section XB2
variable {p : Program} {l : Launch} {e : Env} {R : Room} {s : State} {m : MethodId} {args : Array Value} {below : List Frame} {meth : Method} {c : Code} {H H0 : Heap} {locs : List Loc} {cells slots : Nat} {Q : State → Prop} {A : Nat → Prop} {D : va_G} {cl : List vw_C} {ws : va_W} {tys : List (ClassId × FieldType)} {cc : ByteArray} {pc : Nat} {ls : Array Slot} {rest : List Value} {a : Nat}
theorem xl_ald (hexec : p.tables.exec = Jvm.exec) (hb : c.code = cc) (hK : va_K D cl tys s) (hP : va_P D cl ws H) (q0 t0 : Nat) {cA : ClassId} {n : Nat} {F : Nat → Int} (ha : ws[q0]? = some (a, LA cA n F)) (ht : tys[t0]? = some (cA, .long)) {k : Nat} (hk : k < n) (hn : n < 2 ^ 31) (hdg : decode cc pc = .ok (.laload, 1))
    (kk : W p l e R s m args below meth c H locs cells slots Q (F0 m (pc + 1) ls (.long (lI (F k)) :: rest))) : W p l e R s m args below meth c H locs cells slots Q (F0 m pc ls (.int (nI k) :: .ref a :: rest)) := by
  refine va_lald hexec hb hK hP q0 t0 ha ht (vp_in_nI hk hn) hdg ?_
  rw [nI_clamp (by omega)]
  exact kk
theorem xl_ast (hexec : p.tables.exec = Jvm.exec) (hb : c.code = cc) (hK : va_K D cl tys s) (hP : va_P D cl ws H) (hD : va_D A ws) (hS : va_S A H0 H locs) (q0 t0 : Nat) {cA : ClassId} {n : Nat} {F : Nat → Int} (ha : ws[q0]? = some (a, LA cA n F)) (ht : tys[t0]? = some (cA, .long)) {k : Nat} {x : Int} (hk : k < n) (hn : n < 2 ^ 31) (hdg : decode cc pc = .ok (.lastore, 1))
    (kk : ∀ (H1 : Heap) (locs1 : List Loc), va_P D cl (ws.set q0 (a, LA cA n (upZ F k x))) H1 → va_D A (ws.set q0 (a, LA cA n (upZ F k x))) → va_S A H0 H1 locs1 → W p l e R s m args below meth c H1 locs1 cells slots Q (F0 m (pc + 1) ls rest)) : W p l e R s m args below meth c H locs cells slots Q (F0 m pc ls (.long (lI x) :: .int (nI k) :: .ref a :: rest)) := by
  refine va_last hexec hb hK hP hD hS q0 t0 ha ht (vp_in_nI hk hn) hdg ?_
  rw [nI_clamp (by omega), LA_up]
  exact kk
theorem xl_add (hexec : p.tables.exec = Jvm.exec) (hb : c.code = cc) {x y : Int} (hdg : decode cc pc = .ok (.ladd, 1)) (kk : W p l e R s m args below meth c H locs cells slots Q (F0 m (pc + 1) ls (.long (lI (x + y)) :: rest))) : W p l e R s m args below meth c H locs cells slots Q (F0 m pc ls (.long (lI y) :: .long (lI x) :: rest)) := by
  refine lv_ladd hexec hb hdg ?_
  rw [lI_add]; exact kk
theorem xl_sub (hexec : p.tables.exec = Jvm.exec) (hb : c.code = cc) {x y : Int} (hdg : decode cc pc = .ok (.lsub, 1)) (kk : W p l e R s m args below meth c H locs cells slots Q (F0 m (pc + 1) ls (.long (lI (x - y)) :: rest))) : W p l e R s m args below meth c H locs cells slots Q (F0 m pc ls (.long (lI y) :: .long (lI x) :: rest)) := by
  refine lv_lsub hexec hb hdg ?_
  rw [lI_sub]; exact kk
theorem xl_mul (hexec : p.tables.exec = Jvm.exec) (hb : c.code = cc) {x y : Int} (hdg : decode cc pc = .ok (.lmul, 1)) (kk : W p l e R s m args below meth c H locs cells slots Q (F0 m (pc + 1) ls (.long (lI (x * y)) :: rest))) : W p l e R s m args below meth c H locs cells slots Q (F0 m pc ls (.long (lI y) :: .long (lI x) :: rest)) := by
  refine lv_lmul hexec hb hdg ?_
  rw [lI_mul]; exact kk
theorem xl_neg (hexec : p.tables.exec = Jvm.exec) (hb : c.code = cc) {x : Int} (hdg : decode cc pc = .ok (.lneg, 1)) (kk : W p l e R s m args below meth c H locs cells slots Q (F0 m (pc + 1) ls (.long (lI (-x)) :: rest))) : W p l e R s m args below meth c H locs cells slots Q (F0 m pc ls (.long (lI x) :: rest)) := by
  refine lv_lneg hexec hb hdg ?_
  rw [lI_neg]; exact kk
theorem xl_div (hexec : p.tables.exec = Jvm.exec) (hb : c.code = cc) {x y : Int} (hx : lB x) (hy : lB y) (h0 : y ≠ 0) (hm : ¬ (x = -9223372036854775808 ∧ y = -1)) (hdg : decode cc pc = .ok (.ldiv, 1)) (kk : W p l e R s m args below meth c H locs cells slots Q (F0 m (pc + 1) ls (.long (lI (x.tdiv y)) :: rest))) : W p l e R s m args below meth c H locs cells slots Q (F0 m pc ls (.long (lI y) :: .long (lI x) :: rest)) := by
  refine lv_ldiv hexec hb hdg (fun q => h0 ((lI_eq hy lB_0).mp q)) ?_
  rw [lI_div hx hy hm]; exact kk
theorem xl_rem (hexec : p.tables.exec = Jvm.exec) (hb : c.code = cc) {x y : Int} (hx : lB x) (hy : lB y) (h0 : y ≠ 0) (hm : ¬ (x = -9223372036854775808 ∧ y = -1)) (hdg : decode cc pc = .ok (.lrem, 1)) (kk : W p l e R s m args below meth c H locs cells slots Q (F0 m (pc + 1) ls (.long (lI (x.tmod y)) :: rest))) : W p l e R s m args below meth c H locs cells slots Q (F0 m pc ls (.long (lI y) :: .long (lI x) :: rest)) := by
  refine lv_lrem hexec hb hdg (fun q => h0 ((lI_eq hy lB_0).mp q)) ?_
  rw [lI_rem hx hy hm]; exact kk
theorem xn_add (hexec : p.tables.exec = Jvm.exec) (hb : c.code = cc) {x y : Nat} (hdg : decode cc pc = .ok (.iadd, 1)) (kk : W p l e R s m args below meth c H locs cells slots Q (F0 m (pc + 1) ls (.int (nI (x + y)) :: rest))) : W p l e R s m args below meth c H locs cells slots Q (F0 m pc ls (.int (nI y) :: .int (nI x) :: rest)) := by
  refine lv_iadd hexec hb hdg ?_
  rw [nI_add]; exact kk
theorem xn_mul (hexec : p.tables.exec = Jvm.exec) (hb : c.code = cc) {x y : Nat} (hdg : decode cc pc = .ok (.imul, 1)) (kk : W p l e R s m args below meth c H locs cells slots Q (F0 m (pc + 1) ls (.int (nI (x * y)) :: rest))) : W p l e R s m args below meth c H locs cells slots Q (F0 m pc ls (.int (nI y) :: .int (nI x) :: rest)) := by
  refine lv_imul hexec hb hdg ?_
  rw [pk_mul]; exact kk
theorem xn_sub (hexec : p.tables.exec = Jvm.exec) (hb : c.code = cc) {x y : Nat} (h : y ≤ x) (hdg : decode cc pc = .ok (.isub, 1)) (kk : W p l e R s m args below meth c H locs cells slots Q (F0 m (pc + 1) ls (.int (nI (x - y)) :: rest))) : W p l e R s m args below meth c H locs cells slots Q (F0 m pc ls (.int (nI y) :: .int (nI x) :: rest)) := by
  refine lv_isub hexec hb hdg ?_
  rw [pk_sub h]; exact kk
theorem xn_rem (hexec : p.tables.exec = Jvm.exec) (hb : c.code = cc) {x y : Nat} (hx : x < 2 ^ 31) (h0 : 0 < y) (hy : y < 2 ^ 31) (hdg : decode cc pc = .ok (.irem, 1)) (kk : W p l e R s m args below meth c H locs cells slots Q (F0 m (pc + 1) ls (.int (nI (x % y)) :: rest))) : W p l e R s m args below meth c H locs cells slots Q (F0 m pc ls (.int (nI y) :: .int (nI x) :: rest)) := by
  refine lv_irem hexec hb hdg (nI_ne0 h0 hy) ?_
  rw [pk_rem hx h0 hy]; exact kk
theorem xn_i2l (hexec : p.tables.exec = Jvm.exec) (hb : c.code = cc) {x : Nat} (hx : x < 2 ^ 31) (hdg : decode cc pc = .ok (.i2l, 1)) (kk : W p l e R s m args below meth c H locs cells slots Q (F0 m (pc + 1) ls (.long (lI (x : Nat)) :: rest))) : W p l e R s m args below meth c H locs cells slots Q (F0 m pc ls (.int (nI x) :: rest)) :=
  lv_i2l hexec hb hdg (lI_nI hx) kk
theorem xn_eq (hexec : p.tables.exec = Jvm.exec) (hb : c.code = cc) {x y : Nat} (hx : x < 2 ^ 31) (hy : y < 2 ^ 31) {off : Int} {tgt : Nat} (hdg : decode cc pc = .ok (.if_icmp .eq off, 3)) (ht : (pc : Int) + off = (tgt : Int)) (kt : x = y → W p l e R s m args below meth c H locs cells slots Q (F0 m tgt ls rest)) (kf : ¬ x = y → W p l e R s m args below meth c H locs cells slots Q (F0 m (pc + 3) ls rest)) : W p l e R s m args below meth c H locs cells slots Q (F0 m pc ls (.int (nI y) :: .int (nI x) :: rest)) := by
  have L := nI_eq hx hy
  exact lv_icmp_eq hexec hb hdg ht (fun q => kt (L.mp q)) (fun q => kf (fun z => q (L.mpr z)))
theorem xn_ne (hexec : p.tables.exec = Jvm.exec) (hb : c.code = cc) {x y : Nat} (hx : x < 2 ^ 31) (hy : y < 2 ^ 31) {off : Int} {tgt : Nat} (hdg : decode cc pc = .ok (.if_icmp .ne off, 3)) (ht : (pc : Int) + off = (tgt : Int)) (kt : ¬ x = y → W p l e R s m args below meth c H locs cells slots Q (F0 m tgt ls rest)) (kf : x = y → W p l e R s m args below meth c H locs cells slots Q (F0 m (pc + 3) ls rest)) : W p l e R s m args below meth c H locs cells slots Q (F0 m pc ls (.int (nI y) :: .int (nI x) :: rest)) := by
  have L := nI_eq hx hy
  exact lv_icmp_ne hexec hb hdg ht (fun q => kt (fun z => q (L.mpr z))) (fun q => kf (L.mp q))
theorem xn_lt (hexec : p.tables.exec = Jvm.exec) (hb : c.code = cc) {x y : Nat} (hx : x < 2 ^ 31) (hy : y < 2 ^ 31) {off : Int} {tgt : Nat} (hdg : decode cc pc = .ok (.if_icmp .lt off, 3)) (ht : (pc : Int) + off = (tgt : Int)) (kt : x < y → W p l e R s m args below meth c H locs cells slots Q (F0 m tgt ls rest)) (kf : y ≤ x → W p l e R s m args below meth c H locs cells slots Q (F0 m (pc + 3) ls rest)) : W p l e R s m args below meth c H locs cells slots Q (F0 m pc ls (.int (nI y) :: .int (nI x) :: rest)) := by
  have L := nI_ltI hx hy
  exact lv_icmp_lt hexec hb hdg ht (fun q => kt (L.mp q)) (fun q => kf (Nat.le_of_not_lt (fun z => q (L.mpr z))))
theorem xn_ge (hexec : p.tables.exec = Jvm.exec) (hb : c.code = cc) {x y : Nat} (hx : x < 2 ^ 31) (hy : y < 2 ^ 31) {off : Int} {tgt : Nat} (hdg : decode cc pc = .ok (.if_icmp .ge off, 3)) (ht : (pc : Int) + off = (tgt : Int)) (kt : y ≤ x → W p l e R s m args below meth c H locs cells slots Q (F0 m tgt ls rest)) (kf : x < y → W p l e R s m args below meth c H locs cells slots Q (F0 m (pc + 3) ls rest)) : W p l e R s m args below meth c H locs cells slots Q (F0 m pc ls (.int (nI y) :: .int (nI x) :: rest)) := by
  have L := nI_leI hy hx
  exact lv_icmp_ge hexec hb hdg ht (fun q => kt (L.mp q)) (fun q => kf (Nat.lt_of_not_le (fun z => q (L.mpr z))))
theorem xn_gt (hexec : p.tables.exec = Jvm.exec) (hb : c.code = cc) {x y : Nat} (hx : x < 2 ^ 31) (hy : y < 2 ^ 31) {off : Int} {tgt : Nat} (hdg : decode cc pc = .ok (.if_icmp .gt off, 3)) (ht : (pc : Int) + off = (tgt : Int)) (kt : y < x → W p l e R s m args below meth c H locs cells slots Q (F0 m tgt ls rest)) (kf : x ≤ y → W p l e R s m args below meth c H locs cells slots Q (F0 m (pc + 3) ls rest)) : W p l e R s m args below meth c H locs cells slots Q (F0 m pc ls (.int (nI y) :: .int (nI x) :: rest)) := by
  have L := nI_ltI hy hx
  exact lv_icmp_gt hexec hb hdg ht (fun q => kt (L.mp q)) (fun q => kf (Nat.le_of_not_lt (fun z => q (L.mpr z))))
theorem xn_le (hexec : p.tables.exec = Jvm.exec) (hb : c.code = cc) {x y : Nat} (hx : x < 2 ^ 31) (hy : y < 2 ^ 31) {off : Int} {tgt : Nat} (hdg : decode cc pc = .ok (.if_icmp .le off, 3)) (ht : (pc : Int) + off = (tgt : Int)) (kt : x ≤ y → W p l e R s m args below meth c H locs cells slots Q (F0 m tgt ls rest)) (kf : y < x → W p l e R s m args below meth c H locs cells slots Q (F0 m (pc + 3) ls rest)) : W p l e R s m args below meth c H locs cells slots Q (F0 m pc ls (.int (nI y) :: .int (nI x) :: rest)) := by
  have L := nI_leI hx hy
  exact lv_icmp_le hexec hb hdg ht (fun q => kt (L.mp q)) (fun q => kf (Nat.lt_of_not_le (fun z => q (L.mpr z))))
theorem xi_eq (hexec : p.tables.exec = Jvm.exec) (hb : c.code = cc) {x y : Int32} {X Y : Int} (hX : x.toInt = X) (hY : y.toInt = Y) {off : Int} {tgt : Nat} (hdg : decode cc pc = .ok (.if_icmp .eq off, 3)) (ht : (pc : Int) + off = (tgt : Int)) (kt : X = Y → W p l e R s m args below meth c H locs cells slots Q (F0 m tgt ls rest)) (kf : ¬ X = Y → W p l e R s m args below meth c H locs cells slots Q (F0 m (pc + 3) ls rest)) : W p l e R s m args below meth c H locs cells slots Q (F0 m pc ls (.int y :: .int x :: rest)) :=
  lv_icmp_eq hexec hb hdg ht (fun q => by rw [← Int32.toInt_inj, hX, hY] at q; exact kt q) (fun q => by rw [← Int32.toInt_inj, hX, hY] at q; exact kf q)
theorem xi_ne (hexec : p.tables.exec = Jvm.exec) (hb : c.code = cc) {x y : Int32} {X Y : Int} (hX : x.toInt = X) (hY : y.toInt = Y) {off : Int} {tgt : Nat} (hdg : decode cc pc = .ok (.if_icmp .ne off, 3)) (ht : (pc : Int) + off = (tgt : Int)) (kt : ¬ X = Y → W p l e R s m args below meth c H locs cells slots Q (F0 m tgt ls rest)) (kf : X = Y → W p l e R s m args below meth c H locs cells slots Q (F0 m (pc + 3) ls rest)) : W p l e R s m args below meth c H locs cells slots Q (F0 m pc ls (.int y :: .int x :: rest)) :=
  lv_icmp_ne hexec hb hdg ht (fun q => by rw [← Int32.toInt_inj, hX, hY] at q; exact kt q) (fun q => by rw [← Int32.toInt_inj, hX, hY] at q; exact kf q)
theorem xi_lt (hexec : p.tables.exec = Jvm.exec) (hb : c.code = cc) {x y : Int32} {X Y : Int} (hX : x.toInt = X) (hY : y.toInt = Y) {off : Int} {tgt : Nat} (hdg : decode cc pc = .ok (.if_icmp .lt off, 3)) (ht : (pc : Int) + off = (tgt : Int)) (kt : X < Y → W p l e R s m args below meth c H locs cells slots Q (F0 m tgt ls rest)) (kf : Y ≤ X → W p l e R s m args below meth c H locs cells slots Q (F0 m (pc + 3) ls rest)) : W p l e R s m args below meth c H locs cells slots Q (F0 m pc ls (.int y :: .int x :: rest)) :=
  lv_icmp_lt hexec hb hdg ht (fun q => by rw [Int32.lt_iff_toInt_lt, hX, hY] at q; exact kt q) (fun q => by rw [Int32.lt_iff_toInt_lt, hX, hY] at q; exact kf (by omega))
theorem xi_ge (hexec : p.tables.exec = Jvm.exec) (hb : c.code = cc) {x y : Int32} {X Y : Int} (hX : x.toInt = X) (hY : y.toInt = Y) {off : Int} {tgt : Nat} (hdg : decode cc pc = .ok (.if_icmp .ge off, 3)) (ht : (pc : Int) + off = (tgt : Int)) (kt : Y ≤ X → W p l e R s m args below meth c H locs cells slots Q (F0 m tgt ls rest)) (kf : X < Y → W p l e R s m args below meth c H locs cells slots Q (F0 m (pc + 3) ls rest)) : W p l e R s m args below meth c H locs cells slots Q (F0 m pc ls (.int y :: .int x :: rest)) :=
  lv_icmp_ge hexec hb hdg ht (fun q => by rw [Int32.le_iff_toInt_le, hY, hX] at q; exact kt q) (fun q => by rw [Int32.le_iff_toInt_le, hY, hX] at q; exact kf (by omega))
theorem xi_gt (hexec : p.tables.exec = Jvm.exec) (hb : c.code = cc) {x y : Int32} {X Y : Int} (hX : x.toInt = X) (hY : y.toInt = Y) {off : Int} {tgt : Nat} (hdg : decode cc pc = .ok (.if_icmp .gt off, 3)) (ht : (pc : Int) + off = (tgt : Int)) (kt : Y < X → W p l e R s m args below meth c H locs cells slots Q (F0 m tgt ls rest)) (kf : X ≤ Y → W p l e R s m args below meth c H locs cells slots Q (F0 m (pc + 3) ls rest)) : W p l e R s m args below meth c H locs cells slots Q (F0 m pc ls (.int y :: .int x :: rest)) :=
  lv_icmp_gt hexec hb hdg ht (fun q => by rw [Int32.lt_iff_toInt_lt, hY, hX] at q; exact kt q) (fun q => by rw [Int32.lt_iff_toInt_lt, hY, hX] at q; exact kf (by omega))
theorem xi_le (hexec : p.tables.exec = Jvm.exec) (hb : c.code = cc) {x y : Int32} {X Y : Int} (hX : x.toInt = X) (hY : y.toInt = Y) {off : Int} {tgt : Nat} (hdg : decode cc pc = .ok (.if_icmp .le off, 3)) (ht : (pc : Int) + off = (tgt : Int)) (kt : X ≤ Y → W p l e R s m args below meth c H locs cells slots Q (F0 m tgt ls rest)) (kf : Y < X → W p l e R s m args below meth c H locs cells slots Q (F0 m (pc + 3) ls rest)) : W p l e R s m args below meth c H locs cells slots Q (F0 m pc ls (.int y :: .int x :: rest)) :=
  lv_icmp_le hexec hb hdg ht (fun q => by rw [Int32.le_iff_toInt_le, hX, hY] at q; exact kt q) (fun q => by rw [Int32.le_iff_toInt_le, hX, hY] at q; exact kf (by omega))
theorem xz_eq (hexec : p.tables.exec = Jvm.exec) (hb : c.code = cc) {x : Int32} {X : Int} (hX : x.toInt = X) {off : Int} {tgt : Nat} (hdg : decode cc pc = .ok (.ifCond .eq off, 3)) (ht : (pc : Int) + off = (tgt : Int)) (kt : X = 0 → W p l e R s m args below meth c H locs cells slots Q (F0 m tgt ls rest)) (kf : ¬ X = 0 → W p l e R s m args below meth c H locs cells slots Q (F0 m (pc + 3) ls rest)) : W p l e R s m args below meth c H locs cells slots Q (F0 m pc ls (.int x :: rest)) :=
  lv_if_eq hexec hb hdg ht (fun q => by rw [i0_iff, hX] at q; exact kt q) (fun q => by rw [i0_iff, hX] at q; exact kf q)
theorem xz_ne (hexec : p.tables.exec = Jvm.exec) (hb : c.code = cc) {x : Int32} {X : Int} (hX : x.toInt = X) {off : Int} {tgt : Nat} (hdg : decode cc pc = .ok (.ifCond .ne off, 3)) (ht : (pc : Int) + off = (tgt : Int)) (kt : ¬ X = 0 → W p l e R s m args below meth c H locs cells slots Q (F0 m tgt ls rest)) (kf : X = 0 → W p l e R s m args below meth c H locs cells slots Q (F0 m (pc + 3) ls rest)) : W p l e R s m args below meth c H locs cells slots Q (F0 m pc ls (.int x :: rest)) :=
  lv_if_ne hexec hb hdg ht (fun q => by rw [i0_iff, hX] at q; exact kt q) (fun q => by rw [i0_iff, hX] at q; exact kf q)
theorem xz_lt (hexec : p.tables.exec = Jvm.exec) (hb : c.code = cc) {x : Int32} {X : Int} (hX : x.toInt = X) {off : Int} {tgt : Nat} (hdg : decode cc pc = .ok (.ifCond .lt off, 3)) (ht : (pc : Int) + off = (tgt : Int)) (kt : X < 0 → W p l e R s m args below meth c H locs cells slots Q (F0 m tgt ls rest)) (kf : 0 ≤ X → W p l e R s m args below meth c H locs cells slots Q (F0 m (pc + 3) ls rest)) : W p l e R s m args below meth c H locs cells slots Q (F0 m pc ls (.int x :: rest)) :=
  lv_if_lt hexec hb hdg ht (fun q => by rw [Int32.lt_iff_toInt_lt, hX] at q; exact kt q) (fun q => by rw [Int32.lt_iff_toInt_lt, hX] at q; exact kf (Int.not_lt.mp q))
theorem xz_ge (hexec : p.tables.exec = Jvm.exec) (hb : c.code = cc) {x : Int32} {X : Int} (hX : x.toInt = X) {off : Int} {tgt : Nat} (hdg : decode cc pc = .ok (.ifCond .ge off, 3)) (ht : (pc : Int) + off = (tgt : Int)) (kt : 0 ≤ X → W p l e R s m args below meth c H locs cells slots Q (F0 m tgt ls rest)) (kf : X < 0 → W p l e R s m args below meth c H locs cells slots Q (F0 m (pc + 3) ls rest)) : W p l e R s m args below meth c H locs cells slots Q (F0 m pc ls (.int x :: rest)) :=
  lv_if_ge hexec hb hdg ht (fun q => by rw [Int32.le_iff_toInt_le, hX] at q; exact kt q) (fun q => by rw [Int32.le_iff_toInt_le, hX] at q; exact kf (Int.not_le.mp q))
theorem xz_gt (hexec : p.tables.exec = Jvm.exec) (hb : c.code = cc) {x : Int32} {X : Int} (hX : x.toInt = X) {off : Int} {tgt : Nat} (hdg : decode cc pc = .ok (.ifCond .gt off, 3)) (ht : (pc : Int) + off = (tgt : Int)) (kt : 0 < X → W p l e R s m args below meth c H locs cells slots Q (F0 m tgt ls rest)) (kf : X ≤ 0 → W p l e R s m args below meth c H locs cells slots Q (F0 m (pc + 3) ls rest)) : W p l e R s m args below meth c H locs cells slots Q (F0 m pc ls (.int x :: rest)) :=
  lv_if_gt hexec hb hdg ht (fun q => by rw [Int32.lt_iff_toInt_lt, hX] at q; exact kt q) (fun q => by rw [Int32.lt_iff_toInt_lt, hX] at q; exact kf (Int.not_lt.mp q))
theorem xz_le (hexec : p.tables.exec = Jvm.exec) (hb : c.code = cc) {x : Int32} {X : Int} (hX : x.toInt = X) {off : Int} {tgt : Nat} (hdg : decode cc pc = .ok (.ifCond .le off, 3)) (ht : (pc : Int) + off = (tgt : Int)) (kt : X ≤ 0 → W p l e R s m args below meth c H locs cells slots Q (F0 m tgt ls rest)) (kf : 0 < X → W p l e R s m args below meth c H locs cells slots Q (F0 m (pc + 3) ls rest)) : W p l e R s m args below meth c H locs cells slots Q (F0 m pc ls (.int x :: rest)) :=
  lv_if_le hexec hb hdg ht (fun q => by rw [Int32.le_iff_toInt_le, hX] at q; exact kt q) (fun q => by rw [Int32.le_iff_toInt_le, hX] at q; exact kf (Int.not_le.mp q))
theorem xl_eq (hexec : p.tables.exec = Jvm.exec) (hb : c.code = cc) {x y : Int} (hx : lB x) (hy : lB y) {off : Int} {tgt : Nat} (hd1 : decode cc pc = .ok (.lcmp, 1)) (hdg : decode cc (pc + 1) = .ok (.ifCond .eq off, 3)) (ht : ((pc + 1 : Nat) : Int) + off = (tgt : Int)) (kt : x = y → W p l e R s m args below meth c H locs cells slots Q (F0 m tgt ls rest)) (kf : ¬ x = y → W p l e R s m args below meth c H locs cells slots Q (F0 m (pc + 1 + 3) ls rest)) : W p l e R s m args below meth c H locs cells slots Q (F0 m pc ls (.long (lI y) :: .long (lI x) :: rest)) := by
  refine W.lcmp hexec hb hd1 ?_
  refine xz_eq hexec hb (lg_cmp_lI hx hy) hdg ht (fun q => kt ?_) (fun q => kf ?_)
  · split at q <;> (try split at q) <;> omega
  · split at q <;> (try split at q) <;> omega
theorem xl_ne (hexec : p.tables.exec = Jvm.exec) (hb : c.code = cc) {x y : Int} (hx : lB x) (hy : lB y) {off : Int} {tgt : Nat} (hd1 : decode cc pc = .ok (.lcmp, 1)) (hdg : decode cc (pc + 1) = .ok (.ifCond .ne off, 3)) (ht : ((pc + 1 : Nat) : Int) + off = (tgt : Int)) (kt : ¬ x = y → W p l e R s m args below meth c H locs cells slots Q (F0 m tgt ls rest)) (kf : x = y → W p l e R s m args below meth c H locs cells slots Q (F0 m (pc + 1 + 3) ls rest)) : W p l e R s m args below meth c H locs cells slots Q (F0 m pc ls (.long (lI y) :: .long (lI x) :: rest)) := by
  refine W.lcmp hexec hb hd1 ?_
  refine xz_ne hexec hb (lg_cmp_lI hx hy) hdg ht (fun q => kt ?_) (fun q => kf ?_)
  · split at q <;> (try split at q) <;> omega
  · split at q <;> (try split at q) <;> omega
theorem xl_lt (hexec : p.tables.exec = Jvm.exec) (hb : c.code = cc) {x y : Int} (hx : lB x) (hy : lB y) {off : Int} {tgt : Nat} (hd1 : decode cc pc = .ok (.lcmp, 1)) (hdg : decode cc (pc + 1) = .ok (.ifCond .lt off, 3)) (ht : ((pc + 1 : Nat) : Int) + off = (tgt : Int)) (kt : x < y → W p l e R s m args below meth c H locs cells slots Q (F0 m tgt ls rest)) (kf : y ≤ x → W p l e R s m args below meth c H locs cells slots Q (F0 m (pc + 1 + 3) ls rest)) : W p l e R s m args below meth c H locs cells slots Q (F0 m pc ls (.long (lI y) :: .long (lI x) :: rest)) := by
  refine W.lcmp hexec hb hd1 ?_
  refine xz_lt hexec hb (lg_cmp_lI hx hy) hdg ht (fun q => kt ?_) (fun q => kf ?_)
  · split at q <;> (try split at q) <;> omega
  · split at q <;> (try split at q) <;> omega
theorem xl_ge (hexec : p.tables.exec = Jvm.exec) (hb : c.code = cc) {x y : Int} (hx : lB x) (hy : lB y) {off : Int} {tgt : Nat} (hd1 : decode cc pc = .ok (.lcmp, 1)) (hdg : decode cc (pc + 1) = .ok (.ifCond .ge off, 3)) (ht : ((pc + 1 : Nat) : Int) + off = (tgt : Int)) (kt : y ≤ x → W p l e R s m args below meth c H locs cells slots Q (F0 m tgt ls rest)) (kf : x < y → W p l e R s m args below meth c H locs cells slots Q (F0 m (pc + 1 + 3) ls rest)) : W p l e R s m args below meth c H locs cells slots Q (F0 m pc ls (.long (lI y) :: .long (lI x) :: rest)) := by
  refine W.lcmp hexec hb hd1 ?_
  refine xz_ge hexec hb (lg_cmp_lI hx hy) hdg ht (fun q => kt ?_) (fun q => kf ?_)
  · split at q <;> (try split at q) <;> omega
  · split at q <;> (try split at q) <;> omega
theorem xl_gt (hexec : p.tables.exec = Jvm.exec) (hb : c.code = cc) {x y : Int} (hx : lB x) (hy : lB y) {off : Int} {tgt : Nat} (hd1 : decode cc pc = .ok (.lcmp, 1)) (hdg : decode cc (pc + 1) = .ok (.ifCond .gt off, 3)) (ht : ((pc + 1 : Nat) : Int) + off = (tgt : Int)) (kt : y < x → W p l e R s m args below meth c H locs cells slots Q (F0 m tgt ls rest)) (kf : x ≤ y → W p l e R s m args below meth c H locs cells slots Q (F0 m (pc + 1 + 3) ls rest)) : W p l e R s m args below meth c H locs cells slots Q (F0 m pc ls (.long (lI y) :: .long (lI x) :: rest)) := by
  refine W.lcmp hexec hb hd1 ?_
  refine xz_gt hexec hb (lg_cmp_lI hx hy) hdg ht (fun q => kt ?_) (fun q => kf ?_)
  · split at q <;> (try split at q) <;> omega
  · split at q <;> (try split at q) <;> omega
theorem xl_le (hexec : p.tables.exec = Jvm.exec) (hb : c.code = cc) {x y : Int} (hx : lB x) (hy : lB y) {off : Int} {tgt : Nat} (hd1 : decode cc pc = .ok (.lcmp, 1)) (hdg : decode cc (pc + 1) = .ok (.ifCond .le off, 3)) (ht : ((pc + 1 : Nat) : Int) + off = (tgt : Int)) (kt : x ≤ y → W p l e R s m args below meth c H locs cells slots Q (F0 m tgt ls rest)) (kf : y < x → W p l e R s m args below meth c H locs cells slots Q (F0 m (pc + 1 + 3) ls rest)) : W p l e R s m args below meth c H locs cells slots Q (F0 m pc ls (.long (lI y) :: .long (lI x) :: rest)) := by
  refine W.lcmp hexec hb hd1 ?_
  refine xz_le hexec hb (lg_cmp_lI hx hy) hdg ht (fun q => kt ?_) (fun q => kf ?_)
  · split at q <;> (try split at q) <;> omega
  · split at q <;> (try split at q) <;> omega
theorem xl_copy (hexec : p.tables.exec = Jvm.exec) (hb : c.code = cc) (hml : c.maxLocals = ls.size) {own : String} {index : Nat} (hown : s.vm.findClass own = some m.cls) (hlink : (Cond.methodLink own index arraycopyName).before args s = true) (hnat : (Cond.native arraycopyName).before args s = true) (hstat : (Cond.static arraycopyName).before args s = true) (hini : (Cond.initialized "java/lang/System").before args s = true)
    (hK : va_K D cl tys s) (hP : va_P D cl ws H) (hD : va_D A ws) (hS : va_S A H0 H locs) (q0 q1 t0 : Nat) {a0 : Nat} {cA : ClassId} {n0 n1 : Nat} {F G : Nat → Int} (ha0 : ws[q0]? = some (a0, LA cA n0 F)) (ha1 : ws[q1]? = some (a, LA cA n1 G)) (ht0 : tys[t0]? = some (cA, .long)) {n : Nat} (h4 : n ≤ n0) (h5 : n ≤ n1) (hn : n < 2 ^ 31)
    (hframes : 1 ≤ R.frames) (hlocals : (rest.map fun v => v.category).sum + (nativeFrameWords "java/lang/System" "arraycopy" 5 + 11) ≤ R.locals) (hdg : decode cc pc = .ok (.invokestatic index, 3))
    (kk : ∀ (H1 : Heap) (locs1 : List Loc), va_P D cl (ws.set q1 (a, LA cA n1 (cpZ F G n))) H1 → va_D A (ws.set q1 (a, LA cA n1 (cpZ F G n))) → va_S A H0 H1 locs1 → W p l e R s m args below meth c H1 locs1 cells slots Q (F0 m (pc + 3) ls rest)) : W p l e R s m args below meth c H locs cells slots Q (F0 m pc ls (.int (nI n) :: .int (nI 0) :: .ref a :: .int (nI 0) :: .ref a0 :: rest)) := by
  have e0 : (nI 0).toNatClampNeg = 0 := nI_clamp (by decide)
  have en : (nI n).toNatClampNeg = n := nI_clamp hn
  refine va_copyl hexec hb hml hown hlink hnat hstat hini hK hP hD hS q0 q1 t0 t0 ha0 ha1 ht0 ht0 rfl (nI_pos (by decide)) (nI_pos (by decide)) (nI_pos hn) (by rw [e0, en]; omega) (by rw [e0, en]; omega) (fun i _ => rfl) hframes hlocals hdg ?_
  rw [e0, en, LA_cpy]
  exact kk
theorem xl_abs (hexec : p.tables.exec = Jvm.exec) (hb : c.code = cc) (hml : c.maxLocals = ls.size) {own : String} {index : Nat} (hown : s.vm.findClass own = some m.cls) (hlink : (Cond.methodLink own index Lib.MathLoose.abs_long.x).before args s = true) (hstat : (Cond.static Lib.MathLoose.abs_long.x).before args s = true) (hini : (Cond.initialized "java/lang/Math").before args s = true) (hcode : (Cond.code Lib.MathLoose.abs_long.x Lib.MathLoose.abs_long.code 2 (some .long)).before args s = true)
    (hframes : 1 ≤ R.frames) (hlocals : (rest.map fun v => v.category).sum + 13 ≤ R.locals) (hc : cells ≤ R.cells) (hs : slots ≤ R.slots) {x : Int} (hx : lB x) (hdg : decode cc pc = .ok (.invokestatic index, 3))
    (kk : W p l e R s m args below meth c H locs cells slots Q (F0 m (pc + 3) ls (.long (lI (x.natAbs : Nat)) :: rest))) : W p l e R s m args below meth c H locs cells slots Q (F0 m pc ls (.long (lI x) :: rest)) := by
  refine va_mabs_long hexec hb hml hown hlink hstat hini hcode hframes hlocals hc hs hdg ?_
  rw [lI_abs hx]
  exact kk
end XB2
end
section
section XB3
/-- the two links of nest mates, which are no words that a callee's list may hold -/
def xN (U : State) : Prop := va_Nw (.methodLinkNest R_T 28 y_K_place R_K) U ∧ va_Nw (.methodLinkNest R_K 26 y_T_init R_K) U
theorem xN.warm {s U : State} (hW : s.WarmedH U.vm) (h : xN s) : xN U := ⟨va_Nw.warmM hW h.1, va_Nw.warmM hW h.2⟩
theorem xN.calling {U : State} {g : JFrame} {mk : MethodId} {a : Array Value} (h : xN U) : xN (U.calling g mk a) := ⟨va_Nw.same (u := U) rfl rfl h.1, va_Nw.same (u := U) rfl rfl h.2⟩
theorem gV {own : String} {idx : Nat} {C : String} {y : MethodName} {b : ByteArray} {n : Nat} {r : Option FieldType} (h1 : Cond.methodLink own idx y ∈ tW) (h2 : Cond.instanceMethod y ∈ tW) (h3 : Cond.selects C y y ∈ tW) (h4 : Cond.initialized C ∈ tW) (h5 : Cond.code y b n r ∈ tW) : GoodIn tW (wsV own idx C y (Cond.code y b n r :: tW)) := by
  intro w hw
  rcases List.mem_append.mp hw with h | h
  · simp only [List.mem_cons, List.not_mem_nil, or_false] at h
    rcases h with rfl | rfl | rfl | rfl
    · exact tW_self _ h1
    · exact tW_self _ h2
    · exact tW_self _ h3
    · exact tW_self _ h4
  · rcases List.mem_cons.mp h with rfl | h
    · exact tW_self _ h5
    · exact tW_self _ h
theorem gN {y : MethodName} {b : ByteArray} {n : Nat} {r : Option FieldType} (h5 : Cond.code y b n r ∈ tW) : GoodIn tW (Cond.code y b n r :: tW) := by
  intro w h
  rcases List.mem_cons.mp h with rfl | h
  · exact tW_self _ h5
  · exact tW_self _ h
theorem gS {own : String} {idx : Nat} {y : MethodName} {b : ByteArray} {n : Nat} {r : Option FieldType} (h1 : Cond.methodLink own idx y ∈ tW) (h2 : Cond.static y ∈ tW) (h4 : Cond.initialized own ∈ tW) (h5 : Cond.code y b n r ∈ tW) : GoodIn tW (wsS own idx y (Cond.code y b n r :: tW)) := by
  intro w hw
  rcases List.mem_append.mp hw with h | h
  · simp only [List.mem_cons, List.not_mem_nil, or_false] at h
    rcases h with rfl | rfl | rfl
    · exact tW_self _ h1
    · exact tW_self _ h2
    · exact tW_self _ h4
  · exact gN h5 w h
theorem gSJ {own : String} {idx : Nat} {y : MethodName} {b : ByteArray} {n : Nat} {r : Option FieldType} (h1 : Cond.methodLink own idx y ∈ tW) (h2 : Cond.static y ∈ tW) (h4 : Cond.initialized y.cls ∈ tW) (h5 : Cond.code y b n r ∈ tW) : GoodIn tW (va_wsS own idx y (Cond.code y b n r :: tW)) := by
  intro w hw
  rcases List.mem_append.mp hw with h | h
  · simp only [List.mem_cons, List.not_mem_nil, or_false] at h
    rcases h with rfl | rfl | rfl
    · exact tW_self _ h1
    · exact tW_self _ h2
    · exact tW_self _ h4
  · exact gN h5 w h
/-- a contract's start: the heap's size, the world -/
def xB (D : va_G) (cl : List vw_C) (tys : List (ClassId × FieldType)) (sz : Nat) (ws : va_W) : State → Prop := fun U => U.heap.size = sz ∧ va_P D cl ws U.heap ∧ va_K D cl tys U ∧ va_D (fun _ => True) ws ∧ xN U
/-- a contract's end: the world behind it -/
def xE {S : Type} (D : va_G) (cl : List vw_C) (tys : List (ClassId × FieldType)) (A : Nat → Prop) (wf : S → va_W) : S → State → Prop := fun u t => va_P D cl (wf u) t.heap ∧ va_K D cl tys t ∧ va_D A (wf u)
abbrev xMi {S : Type} (l : Launch) (y : MethodName) (yw : List Cond) (rm : Room) (av : List Value) (D : va_G) (cl : List vw_C) (tys : List (ClassId × FieldType)) (sz : Nat) (w0 : va_W) (post : Int32 → S → Prop) (wf : S → va_W) (mc ms : Nat) : Prop :=
  Met l y yw rm (va_Pc av (xB D cl tys sz w0)) (va_Qi post (xE D cl tys (va_A w0 sz) wf) (va_A w0 sz)) mc ms (va_A w0 sz)
abbrev xMz {S : Type} (l : Launch) (y : MethodName) (yw : List Cond) (rm : Room) (av : List Value) (D : va_G) (cl : List vw_C) (tys : List (ClassId × FieldType)) (sz : Nat) (w0 : va_W) (post : Int32 → S → Prop) (wf : S → va_W) (mc ms : Nat) : Prop := xMi l y yw rm av D cl tys sz w0 post wf mc ms
abbrev xMl {S : Type} (l : Launch) (y : MethodName) (yw : List Cond) (rm : Room) (av : List Value) (D : va_G) (cl : List vw_C) (tys : List (ClassId × FieldType)) (sz : Nat) (w0 : va_W) (post : Int64 → S → Prop) (wf : S → va_W) (mc ms : Nat) : Prop :=
  Met l y yw rm (va_Pc av (xB D cl tys sz w0)) (va_Ql post (xE D cl tys (va_A w0 sz) wf) (va_A w0 sz)) mc ms (va_A w0 sz)
abbrev xMv {S : Type} (l : Launch) (y : MethodName) (yw : List Cond) (rm : Room) (av : List Value) (D : va_G) (cl : List vw_C) (tys : List (ClassId × FieldType)) (sz : Nat) (w0 : va_W) (post : S → Prop) (wf : S → va_W) (mc ms : Nat) : Prop :=
  Met l y yw rm (va_Pc av (xB D cl tys sz w0)) (va_Qv post (xE D cl tys (va_A w0 sz) wf) (va_A w0 sz)) mc ms (va_A w0 sz)
theorem xBlind {av : List Value} {D : va_G} {cl : List vw_C} {tys : List (ClassId × FieldType)} {sz : Nat} {ws : va_W} : FrameBlind (va_Pc av (xB D cl tys sz ws)) := fun a U g mk q => by
  obtain ⟨q0, q1, qP, qK, qD, qN⟩ := q
  exact ⟨q0, q1, qP, va_K.moved (u := U) (U := U.calling g mk a) (Vm.Alike.refl U.vm) qK, qD, qN.calling⟩
theorem xPreS {s : State} {H : Heap} {D : va_G} {cl : List vw_C} {tys : List (ClassId × FieldType)} {A : Nat → Prop} {wc : va_W} {As : List Value} (hN : xN s) (hK : va_K D cl tys s) (hP : va_P D cl wc H) (hD : va_D A wc) : PreS s H (va_Pc As (xB D cl tys H.size wc)) As :=
  ⟨xBlind, fun U hU hW => ⟨rfl, by rw [hU], by rw [hU]; exact hP, va_K.moved hW.alike hK, hD.weaken (fun _ _ _ _ => trivial), hN.warm hW⟩⟩
theorem xPreV {s : State} {H : Heap} {D : va_G} {cl : List vw_C} {tys : List (ClassId × FieldType)} {A : Nat → Prop} {wc : va_W} {As : List Value} {b ci q0 N : Nat} {C : String} {T : u_T} {fs : List Value} (hN : xN s) (hK : va_K D cl tys s) (hP : va_P D cl wc H) (hD : va_D A wc) (hc : cl[ci]? = some (C, T, N)) (he : wc[q0]? = some (b, .inr (ci, fs))) : PreV s H C b (va_Pc (.ref b :: As) (xB D cl tys H.size wc)) As :=
  ⟨xBlind, va_recv hK hP hc he, fun U hU hW => ⟨rfl, by rw [hU], by rw [hU]; exact hP, va_K.moved hW.alike hK, hD.weaken (fun _ _ _ _ => trivial), hN.warm hW⟩⟩
theorem xci {p : Program} {l : Launch} {e : Env} {R : Room} {s : State} {m : MethodId} {args : Array Value} {below : List Frame} {meth : Method} {c : Code} {H H0 : Heap} {locs : List Loc} {cells slots : Nat} {Q : State → Prop} {A : Nat → Prop} {D : va_G} {cl : List vw_C} {ws wc wr : va_W} {tys : List (ClassId × FieldType)} {pc : Nat} {ls : Array Slot} {st0 rest : List Value} {a : Array Value} {S : Type} {post : Int32 → S → Prop} {wf : S → va_W} (hP : va_P D cl ws H) (hD : va_D A ws) (hS : va_S A H0 H locs) (hA : ∀ q, H0.size ≤ q → A q) (isC isR : List Nat) (hC : isC.map (fun i => ws[i]?) = wc.map some) (hR : isR.map (fun i => ws[i]?) = wr.map some) (hn : va_nd isR = true) (hdis : ∀ i ∈ isR, i ∉ isC)
    (hr : va_Run p l e R s m args below meth c H locs cells slots 0 0 (F0 m pc ls st0) rest (va_Qi post (xE D cl tys (va_A wc H.size) wf) (va_A wc H.size) a) (va_A wc H.size))
    (kk : ∀ (r : Int32) (u : S) (H1 : Heap) (locs1 : List Loc), post r u → va_P D cl (wr ++ wf u) H1 → va_D A (wr ++ wf u) → va_S A H0 H1 locs1 → W p l e R s m args below meth c H1 locs1 cells slots Q (F0 m (pc + 3) ls (.int r :: rest))) : W p l e R s m args below meth c H locs cells slots Q (F0 m pc ls st0) := by
  have hFc := va_free (wc := wc) hD hS hA isC hC
  refine va_calli hr hS (fun q _ h => hFc q h) hFc (fun r u t H1 locs1 ht hvm hw hB hz hk hS1 => ?_)
  obtain ⟨hP1, hK1, hD1⟩ := hB
  rw [ht] at hP1
  obtain ⟨hP2, hD2⟩ := va_join hP hD isC isR hC hR hn hdis hk hFc hP1 hD1
  exact kk r u H1 locs1 hw hP2 hD2 hS1
theorem xcl {p : Program} {l : Launch} {e : Env} {R : Room} {s : State} {m : MethodId} {args : Array Value} {below : List Frame} {meth : Method} {c : Code} {H H0 : Heap} {locs : List Loc} {cells slots : Nat} {Q : State → Prop} {A : Nat → Prop} {D : va_G} {cl : List vw_C} {ws wc wr : va_W} {tys : List (ClassId × FieldType)} {pc : Nat} {ls : Array Slot} {st0 rest : List Value} {a : Array Value} {S : Type} {post : Int64 → S → Prop} {wf : S → va_W} (hP : va_P D cl ws H) (hD : va_D A ws) (hS : va_S A H0 H locs) (hA : ∀ q, H0.size ≤ q → A q) (isC isR : List Nat) (hC : isC.map (fun i => ws[i]?) = wc.map some) (hR : isR.map (fun i => ws[i]?) = wr.map some) (hn : va_nd isR = true) (hdis : ∀ i ∈ isR, i ∉ isC)
    (hr : va_Run p l e R s m args below meth c H locs cells slots 0 0 (F0 m pc ls st0) rest (va_Ql post (xE D cl tys (va_A wc H.size) wf) (va_A wc H.size) a) (va_A wc H.size))
    (kk : ∀ (r : Int64) (u : S) (H1 : Heap) (locs1 : List Loc), post r u → va_P D cl (wr ++ wf u) H1 → va_D A (wr ++ wf u) → va_S A H0 H1 locs1 → W p l e R s m args below meth c H1 locs1 cells slots Q (F0 m (pc + 3) ls (.long r :: rest))) : W p l e R s m args below meth c H locs cells slots Q (F0 m pc ls st0) := by
  have hFc := va_free (wc := wc) hD hS hA isC hC
  refine va_calll hr hS (fun q _ h => hFc q h) hFc (fun r u t H1 locs1 ht hvm hw hB hz hk hS1 => ?_)
  obtain ⟨hP1, hK1, hD1⟩ := hB
  rw [ht] at hP1
  obtain ⟨hP2, hD2⟩ := va_join hP hD isC isR hC hR hn hdis hk hFc hP1 hD1
  exact kk r u H1 locs1 hw hP2 hD2 hS1
theorem xcv {p : Program} {l : Launch} {e : Env} {R : Room} {s : State} {m : MethodId} {args : Array Value} {below : List Frame} {meth : Method} {c : Code} {H H0 : Heap} {locs : List Loc} {cells slots : Nat} {Q : State → Prop} {A : Nat → Prop} {D : va_G} {cl : List vw_C} {ws wc wr : va_W} {tys : List (ClassId × FieldType)} {pc : Nat} {ls : Array Slot} {st0 rest : List Value} {a : Array Value} {S : Type} {post : S → Prop} {wf : S → va_W} (hP : va_P D cl ws H) (hD : va_D A ws) (hS : va_S A H0 H locs) (hA : ∀ q, H0.size ≤ q → A q) (isC isR : List Nat) (hC : isC.map (fun i => ws[i]?) = wc.map some) (hR : isR.map (fun i => ws[i]?) = wr.map some) (hn : va_nd isR = true) (hdis : ∀ i ∈ isR, i ∉ isC)
    (hr : va_Run p l e R s m args below meth c H locs cells slots 0 0 (F0 m pc ls st0) rest (va_Qv post (xE D cl tys (va_A wc H.size) wf) (va_A wc H.size) a) (va_A wc H.size))
    (kk : ∀ (u : S) (H1 : Heap) (locs1 : List Loc), post u → va_P D cl (wr ++ wf u) H1 → va_D A (wr ++ wf u) → va_S A H0 H1 locs1 → W p l e R s m args below meth c H1 locs1 cells slots Q (F0 m (pc + 3) ls rest)) : W p l e R s m args below meth c H locs cells slots Q (F0 m pc ls st0) := by
  have hFc := va_free (wc := wc) hD hS hA isC hC
  refine va_callv hr hS (fun q _ h => hFc q h) hFc (fun u t H1 locs1 ht hvm hw hB hz hk hS1 => ?_)
  obtain ⟨hP1, hK1, hD1⟩ := hB
  rw [ht] at hP1
  obtain ⟨hP2, hD2⟩ := va_join hP hD isC isR hC hR hn hdis hk hFc hP1 hD1
  exact kk u H1 locs1 hw hP2 hD2 hS1
theorem xoi {S : Type} {l : Launch} {y : MethodName} {yw : List Cond} {rm : Room} {av : List Value} {D : va_G} {cl : List vw_C} {tys : List (ClassId × FieldType)} {sz : Nat} {w0 : va_W} {post : Int32 → S → Prop} {wf : S → va_W} {mc ms : Nat} {cc : ByteArray} {maxL : Nat} (hy : plainName y.cls = true) (hw : yw = Cond.code y cc maxL (some .int) :: tW) (hlen : (lg_sl av).length ≤ maxL) 
    (body : ∀ (p : Program) (e : Env) (s : State) (m : MethodId) (args : Array Value) (below : List Frame) (meth : Method) (c : Code) (Q : State → Prop) (A : Nat → Prop), p.tables.exec = Jvm.exec → c.code = cc → c.maxLocals = maxL → (∀ w ∈ tW, w.before args s = true) → s.vm.findClass y.cls = some m.cls → xN s → (∀ q, s.heap.size ≤ q → A q) → va_S A s.heap s.heap [] → va_P D cl w0 s.heap → va_K D cl tys s → va_D A w0 →
      (∀ (H1 : Heap) (locs1 : List Loc) (pc : Nat) (ls : Array Slot) (r : Int32) (u : S), decode cc pc = .ok (.ireturn, 1) → post r u → va_P D cl (wf u) H1 → va_D A (wf u) → va_S A s.heap H1 locs1 → W p l e rm s m args below meth c H1 locs1 mc ms Q (F0 m pc ls [.int r])) →
      ∀ ls : Array Slot, lv_has ls maxL (lv_args 0 av) → W p l e rm s m args below meth c s.heap [] 0 0 Q (F0 m 0 ls [])) : xMi l y yw rm av D cl tys sz w0 post wf mc ms := by
  refine Met.ofW (cc := cc) (maxL := maxL) (ret := some .int) hy hw ?_
  intro p e s m args below meth c s₁ B hml hv
  obtain ⟨rfl, hsz, hP, hK, hD0, hN⟩ := hv
  have hts0 := atoms_spec (ws := yw) B.pre
  have hts : ∀ w ∈ tW, w.before _ s = true := fun w h => hts0 w (by rw [hw]; exact List.mem_cons_of_mem _ h)
  have hown := findClass_of_methodNamed B.named
  subst hsz
  have hD := hD0.self (sz := s.heap.size)
  have hl := lv_entry av (n := maxL) hlen
  rw [lg_entry_eq]
  exact body p e s m _ below meth c _ _ B.exec B.bytes hml hts hown hN (fun q h => Or.inr h) va_S.rf hP hK hD (fun H1 locs1 pc ls r u hd hp hP1 hD1 hS1 => W.iret B.exec B.bytes B.returns (fun t ht hW => ⟨⟨r, u, rfl, hp, by rw [ht]; exact hP1, va_K.moved hW.alike hK, hD1⟩, hS1.F ht⟩) hS1.2.2 hd) _ hl
theorem xoz {S : Type} {l : Launch} {y : MethodName} {yw : List Cond} {rm : Room} {av : List Value} {D : va_G} {cl : List vw_C} {tys : List (ClassId × FieldType)} {sz : Nat} {w0 : va_W} {post : Int32 → S → Prop} {wf : S → va_W} {mc ms : Nat} {cc : ByteArray} {maxL : Nat} (hy : plainName y.cls = true) (hw : yw = Cond.code y cc maxL (some .boolean) :: tW) (hlen : (lg_sl av).length ≤ maxL) (h01 : ∀ r u, post r u → r = nI 0 ∨ r = nI 1) 
    (body : ∀ (p : Program) (e : Env) (s : State) (m : MethodId) (args : Array Value) (below : List Frame) (meth : Method) (c : Code) (Q : State → Prop) (A : Nat → Prop), p.tables.exec = Jvm.exec → c.code = cc → c.maxLocals = maxL → (∀ w ∈ tW, w.before args s = true) → s.vm.findClass y.cls = some m.cls → xN s → (∀ q, s.heap.size ≤ q → A q) → va_S A s.heap s.heap [] → va_P D cl w0 s.heap → va_K D cl tys s → va_D A w0 →
      (∀ (H1 : Heap) (locs1 : List Loc) (pc : Nat) (ls : Array Slot) (r : Int32) (u : S), decode cc pc = .ok (.ireturn, 1) → post r u → va_P D cl (wf u) H1 → va_D A (wf u) → va_S A s.heap H1 locs1 → W p l e rm s m args below meth c H1 locs1 mc ms Q (F0 m pc ls [.int r])) →
      ∀ ls : Array Slot, lv_has ls maxL (lv_args 0 av) → W p l e rm s m args below meth c s.heap [] 0 0 Q (F0 m 0 ls [])) : xMz l y yw rm av D cl tys sz w0 post wf mc ms := by
  refine Met.ofW (cc := cc) (maxL := maxL) (ret := some .boolean) hy hw ?_
  intro p e s m args below meth c s₁ B hml hv
  obtain ⟨rfl, hsz, hP, hK, hD0, hN⟩ := hv
  have hts0 := atoms_spec (ws := yw) B.pre
  have hts : ∀ w ∈ tW, w.before _ s = true := fun w h => hts0 w (by rw [hw]; exact List.mem_cons_of_mem _ h)
  have hown := findClass_of_methodNamed B.named
  subst hsz
  have hD := hD0.self (sz := s.heap.size)
  have hl := lv_entry av (n := maxL) hlen
  rw [lg_entry_eq]
  exact body p e s m _ below meth c _ _ B.exec B.bytes hml hts hown hN (fun q h => Or.inr h) va_S.rf hP hK hD (fun H1 locs1 pc ls r u hd hp hP1 hD1 hS1 => W.zret B.exec B.bytes B.returns (by rcases h01 r u hp with q | q <;> rw [q] <;> decide) (fun t ht hW => ⟨⟨r, u, rfl, hp, by rw [ht]; exact hP1, va_K.moved hW.alike hK, hD1⟩, hS1.F ht⟩) hS1.2.2 hd) _ hl
theorem xol {S : Type} {l : Launch} {y : MethodName} {yw : List Cond} {rm : Room} {av : List Value} {D : va_G} {cl : List vw_C} {tys : List (ClassId × FieldType)} {sz : Nat} {w0 : va_W} {post : Int64 → S → Prop} {wf : S → va_W} {mc ms : Nat} {cc : ByteArray} {maxL : Nat} (hy : plainName y.cls = true) (hw : yw = Cond.code y cc maxL (some .long) :: tW) (hlen : (lg_sl av).length ≤ maxL) 
    (body : ∀ (p : Program) (e : Env) (s : State) (m : MethodId) (args : Array Value) (below : List Frame) (meth : Method) (c : Code) (Q : State → Prop) (A : Nat → Prop), p.tables.exec = Jvm.exec → c.code = cc → c.maxLocals = maxL → (∀ w ∈ tW, w.before args s = true) → s.vm.findClass y.cls = some m.cls → xN s → (∀ q, s.heap.size ≤ q → A q) → va_S A s.heap s.heap [] → va_P D cl w0 s.heap → va_K D cl tys s → va_D A w0 →
      (∀ (H1 : Heap) (locs1 : List Loc) (pc : Nat) (ls : Array Slot) (r : Int64) (u : S), decode cc pc = .ok (.lreturn, 1) → post r u → va_P D cl (wf u) H1 → va_D A (wf u) → va_S A s.heap H1 locs1 → W p l e rm s m args below meth c H1 locs1 mc ms Q (F0 m pc ls [.long r])) →
      ∀ ls : Array Slot, lv_has ls maxL (lv_args 0 av) → W p l e rm s m args below meth c s.heap [] 0 0 Q (F0 m 0 ls [])) : xMl l y yw rm av D cl tys sz w0 post wf mc ms := by
  refine Met.ofW (cc := cc) (maxL := maxL) (ret := some .long) hy hw ?_
  intro p e s m args below meth c s₁ B hml hv
  obtain ⟨rfl, hsz, hP, hK, hD0, hN⟩ := hv
  have hts0 := atoms_spec (ws := yw) B.pre
  have hts : ∀ w ∈ tW, w.before _ s = true := fun w h => hts0 w (by rw [hw]; exact List.mem_cons_of_mem _ h)
  have hown := findClass_of_methodNamed B.named
  subst hsz
  have hD := hD0.self (sz := s.heap.size)
  have hl := lv_entry av (n := maxL) hlen
  rw [lg_entry_eq]
  exact body p e s m _ below meth c _ _ B.exec B.bytes hml hts hown hN (fun q h => Or.inr h) va_S.rf hP hK hD (fun H1 locs1 pc ls r u hd hp hP1 hD1 hS1 => W.lret B.exec B.bytes B.returns (fun t ht hW => ⟨⟨r, u, rfl, hp, by rw [ht]; exact hP1, va_K.moved hW.alike hK, hD1⟩, hS1.F ht⟩) hS1.2.2 hd) _ hl
theorem xov {S : Type} {l : Launch} {y : MethodName} {yw : List Cond} {rm : Room} {av : List Value} {D : va_G} {cl : List vw_C} {tys : List (ClassId × FieldType)} {sz : Nat} {w0 : va_W} {post : S → Prop} {wf : S → va_W} {mc ms : Nat} {cc : ByteArray} {maxL : Nat} (hy : plainName y.cls = true) (hw : yw = Cond.code y cc maxL (none) :: tW) (hlen : (lg_sl av).length ≤ maxL) 
    (body : ∀ (p : Program) (e : Env) (s : State) (m : MethodId) (args : Array Value) (below : List Frame) (meth : Method) (c : Code) (Q : State → Prop) (A : Nat → Prop), p.tables.exec = Jvm.exec → c.code = cc → c.maxLocals = maxL → (∀ w ∈ tW, w.before args s = true) → s.vm.findClass y.cls = some m.cls → xN s → (∀ q, s.heap.size ≤ q → A q) → va_S A s.heap s.heap [] → va_P D cl w0 s.heap → va_K D cl tys s → va_D A w0 →
      (∀ (H1 : Heap) (locs1 : List Loc) (pc : Nat) (ls : Array Slot) (u : S), decode cc pc = .ok (.return_, 1) → post u → va_P D cl (wf u) H1 → va_D A (wf u) → va_S A s.heap H1 locs1 → W p l e rm s m args below meth c H1 locs1 mc ms Q (F0 m pc ls [])) →
      ∀ ls : Array Slot, lv_has ls maxL (lv_args 0 av) → W p l e rm s m args below meth c s.heap [] 0 0 Q (F0 m 0 ls [])) : xMv l y yw rm av D cl tys sz w0 post wf mc ms := by
  refine Met.ofW (cc := cc) (maxL := maxL) (ret := none) hy hw ?_
  intro p e s m args below meth c s₁ B hml hv
  obtain ⟨rfl, hsz, hP, hK, hD0, hN⟩ := hv
  have hts0 := atoms_spec (ws := yw) B.pre
  have hts : ∀ w ∈ tW, w.before _ s = true := fun w h => hts0 w (by rw [hw]; exact List.mem_cons_of_mem _ h)
  have hown := findClass_of_methodNamed B.named
  subst hsz
  have hD := hD0.self (sz := s.heap.size)
  have hl := lv_entry av (n := maxL) hlen
  rw [lg_entry_eq]
  exact body p e s m _ below meth c _ _ B.exec B.bytes hml hts hown hN (fun q h => Or.inr h) va_S.rf hP hK hD (fun H1 locs1 pc ls u hd hp hP1 hD1 hS1 => W.vret B.exec B.bytes B.returns (fun t ht hW => ⟨⟨u, rfl, hp, by rw [ht]; exact hP1, va_K.moved hW.alike hK, hD1⟩, hS1.F ht⟩) hS1.2.2 hd) _ hl
end XB3
end
section
/-! contracts of the table (laid by wip/walk.py out of wip/spec_table.py) -/
/-- one less, perhaps below 0 -/
def dI (n : Nat) : Int32 := nI n - nI 1
theorem dI_of (n : Nat) : nI n + Int32.ofInt (-1) = dI n := by
  unfold dI
  rw [show Int32.ofInt (-1) = -(nI 1) from by decide, Int32.sub_eq_add_neg]
theorem dI_succ (n : Nat) : dI (n + 1) = nI n := nI_pred n
theorem dI_toInt {n : Nat} (h : n < 2 ^ 31) : (dI n).toInt = (n : Int) - 1 := by
  match n with
  | 0 => decide
  | k + 1 => rw [dI_succ, nI_toInt (by omega)]; omega
def dotN (C F : Nat → Int) (i j : Nat) : Nat → Int
  | 0 => 0
  | k + 1 => dotN C F i j k + C (4 * i + k) * F (4 * k + j)
def diaN (P : Nat → Int) : Nat → Int
  | 0 => 0
  | k + 1 => diaN P k + P (4 * k + k)
theorem dotN_congr {C F G : Nat → Int} {i j : Nat} : ∀ {n : Nat}, (∀ t, t < n → F (4 * t + j) = G (4 * t + j)) → dotN C F i j n = dotN C G i j n
  | 0, _ => rfl
  | n + 1, h => by
    show dotN C F i j n + _ = dotN C G i j n + _
    rw [dotN_congr (n := n) (fun t ht => h t (by omega)), h n (by omega)]
theorem diaN_congr {P G : Nat → Int} : ∀ {n : Nat}, (∀ t, t < n → P (4 * t + t) = G (4 * t + t)) → diaN P n = diaN G n
  | 0, _ => rfl
  | n + 1, h => by
    show diaN P n + _ = diaN G n + _
    rw [diaN_congr (n := n) (fun t ht => h t (by omega)), h n (by omega)]
/-- Faddeev and LeVerrier: the product and the coefficient behind k steps -/
def flM (C : Nat → Int) (r : Nat) : Nat → (Nat → Int) × Int
  | 0 => (fun _ => 0, 1)
  | k + 1 => (fun q => dotN C (fun q => (flM C r k).1 q + (if q / 4 = q % 4 then (flM C r k).2 else 0)) (q / 4) (q % 4) r, (-(diaN (fun q => dotN C (fun q => (flM C r k).1 q + (if q / 4 = q % 4 then (flM C r k).2 else 0)) (q / 4) (q % 4) r) r)).tdiv ((k + 1 : Nat) : Int))
/-- the factor of step k + 1 -/
def flF (C : Nat → Int) (r k : Nat) : Nat → Int := fun q => (flM C r k).1 q + (if q / 4 = q % 4 then (flM C r k).2 else 0)
theorem flM_1 (C : Nat → Int) (r k : Nat) : (flM C r (k + 1)).1 = fun q => dotN C (flF C r k) (q / 4) (q % 4) r := rfl
theorem flM_2 (C : Nat → Int) (r k : Nat) : (flM C r (k + 1)).2 = (-(diaN (flM C r (k + 1)).1 r)).tdiv ((k + 1 : Nat) : Int) := rfl
theorem q4d (a : Nat) {b : Nat} (h : b < 4) : (4 * a + b) / 4 = a := by omega
theorem q4m (a : Nat) {b : Nat} (h : b < 4) : (4 * a + b) % 4 = b := by omega
/-- the coefficients, lowest first, hold C's polynomial; the factor is the last one -/
def flOK (C : Nat → Int) (r : Nat) (F O : Nat → Int) : Prop := (∀ i, i ≤ r → O (r - i) = (flM C r i).2) ∧ ∀ a b, a < r → b < r → F (4 * a + b) = flF C r (r - 1) (4 * a + b)
/-- sign changes below the power n, the last sign seen being that of x -/
def chgA (O : Nat → Int) : Nat → Int → Nat
  | 0, _ => 0
  | n + 1, x => if O n = 0 then chgA O n x else if (O n < 0) = (x < 0) then chgA O n (O n) else chgA O n (O n) + 1
theorem chgA_z {O : Nat → Int} {n : Nat} {x : Int} (h : O n = 0) : chgA O (n + 1) x = chgA O n x := if_pos h
theorem chgA_s {O : Nat → Int} {n : Nat} {x : Int} (h : ¬ O n = 0) (e : O n < 0 ↔ x < 0) : chgA O (n + 1) x = chgA O n (O n) := (if_neg h).trans (if_pos (propext e))
theorem chgA_d {O : Nat → Int} {n : Nat} {x : Int} (h : ¬ O n = 0) (e : ¬ (O n < 0 ↔ x < 0)) : chgA O (n + 1) x = chgA O n (O n) + 1 := (if_neg h).trans (if_neg (fun q => e (by rw [q])))
/-- the first power with a coefficient that is not 0, from r - n on -/
def zerN (O : Nat → Int) (r : Nat) : Nat → Nat
  | 0 => r
  | n + 1 => if O (r - (n + 1)) = 0 then zerN O r n else r - (n + 1)
theorem zerN_z {O : Nat → Int} {r z : Nat} (h : z < r) (e : O z = 0) : zerN O r (r - z) = zerN O r (r - (z + 1)) := by
  rw [show r - z = (r - (z + 1)) + 1 from by omega]
  unfold zerN
  rw [show r - (r - (z + 1) + 1) = z from by omega, if_pos e]
  cases r - (z + 1) <;> rfl
theorem zerN_n {O : Nat → Int} {r z : Nat} (h : z < r) (e : ¬ O z = 0) : zerN O r (r - z) = z := by
  rw [show r - z = (r - (z + 1)) + 1 from by omega]
  unfold zerN
  rw [show r - (r - (z + 1) + 1) = z from by omega, if_neg e]
theorem zerN_le (O : Nat → Int) (r : Nat) : ∀ n, n ≤ r → zerN O r n ≤ r ∧ r - n ≤ zerN O r n ∧ (∀ k, r - n ≤ k → k < zerN O r n → O k = 0)
  | 0, _ => ⟨Nat.le_refl _, by show r - 0 ≤ r; omega, fun k h1 h2 => by exact absurd h2 (by show ¬ k < r; omega)⟩
  | n + 1, h => by
    unfold zerN
    obtain ⟨i1, i2, i3⟩ := zerN_le O r n (by omega)
    by_cases q : O (r - (n + 1)) = 0
    · rw [if_pos q]
      refine ⟨i1, by omega, fun k h1 h2 => ?_⟩
      by_cases q2 : k = r - (n + 1)
      · rw [q2]; exact q
      · exact i3 k (by omega) h2
    · rw [if_neg q]
      exact ⟨by omega, Nat.le_refl _, fun k h1 h2 => absurd h2 (by omega)⟩
theorem chg_lez (O : Nat → Int) (z : Nat) (h : ∀ k, k < z → O k = 0) : ∀ (n : Nat) (x : Int), chgA O n x ≤ n - z
  | 0, x => by show 0 ≤ 0 - z; omega
  | n + 1, x => by
    by_cases q : O n = 0
    · rw [chgA_z q]; have := chg_lez O z h n x; omega
    · have hz : z ≤ n := by
        rcases Nat.lt_or_ge n z with w | w
        · exact absurd (h n w) q
        · exact w
      have := chg_lez O z h n (O n)
      by_cases e : (O n < 0 ↔ x < 0)
      · rw [chgA_s q e]; omega
      · rw [chgA_d q e]; omega
theorem chg_le (O : Nat → Int) (r : Nat) (x : Int) : chgA O r x ≤ r - zerN O r r := by
  obtain ⟨i1, i2, i3⟩ := zerN_le O r r (Nat.le_refl _)
  exact chg_lez O (zerN O r r) (fun k h => i3 k (by omega) h) r x
def discZ (su pa al : Int) : Int := su * su * pa * pa - 4 * pa * pa * pa - 4 * su * su * su * al + 18 * su * pa * al - 27 * al * al
def unlZ (r : Nat) (su pa al : Int) : Nat := if r = 2 then (if su * su = 4 * pa then 1 else 2) else if su * su = 3 * pa then 1 else if discZ su pa al = 0 then 2 else 3

def rm_c_place : Room := { frames := 0, cells := 0, slots := 0, locals := 0 }
set_option maxHeartbeats 4000000 in
set_option maxRecDepth 100000 in
/-- place: four to a row -/
theorem c_place (l : Launch) (D : va_G) (cJ : ClassId) (i : Nat) (j : Nat)  (sz : Nat) : xMi l y_K_place (Cond.code y_K_place b_K_place 2 (some .int) :: tW) rm_c_place [.int (nI i), .int (nI j)] D vwC [(cJ, .long)] sz [] (fun (rv : Int32) (_ : Unit) => rv = nI (4 * i + j)) (fun (_ : Unit) => []) 0 0 := by
  refine xoi (cc := b_K_place) (maxL := 2) (by decide) rfl (Nat.le_of_ble_eq_true rfl) ?_
  intro p e s m args below meth c Q A hx hb hml hts hown hN hA hS hP hK hD hret ls hl
  have hl : lv_has ls 2 [(0, .int (nI i)), (1, .int (nI j))] := hl
  obtain ⟨H, hH⟩ : ∃ z, z = s.heap := ⟨_, rfl⟩
  obtain ⟨locs, hlc⟩ : ∃ z : List Loc, z = [] := ⟨_, rfl⟩
  rw [← hH] at hP
  have hS : va_S A s.heap H locs := by rw [hH, hlc]; exact hS
  have key : W p l e rm_c_place s m args below meth c H locs 0 0 Q (F0 m 0 ls []) := by
    refine lv_iconst (v := nI 4) hx hb d_K_place_0 (by decide) ?_
    refine lv_iload_n hx hb d_K_place_1 rfl (lv_at hl 0 rfl) ?_
    refine xn_mul hx hb d_K_place_2 ?_
    refine lv_iload_n hx hb d_K_place_3 rfl (lv_at hl 1 rfl) ?_
    refine xn_add hx hb d_K_place_4 ?_
    exact hret H locs _ ls (nI ((4 * i) + j)) () d_K_place_5 rfl hP hD hS
  rw [hH, hlc] at key; exact key

def rm_c_fill : Room := { frames := 0, cells := 0, slots := 0, locals := 0 }
set_option maxHeartbeats 4000000 in
set_option maxRecDepth 100000 in
/-- fill: all of it -/
theorem c_fill (l : Launch) (D : va_G) (cJ : ClassId) (a : Nat) (n : Nat) (G : Nat → Int) (x : Int) (hn : n < 1000) (sz : Nat) : xMv l y_A_fill (Cond.code y_A_fill b_A_fill 5 none :: tW) rm_c_fill [.ref a, .long (lI x)] D vwC [(cJ, .long)] sz [(a, LA cJ n G)] (fun (uo : (Nat → Int)) => ∀ k, k < n → uo k = x) (fun (uo : (Nat → Int)) => [(a, LA cJ n uo)]) 0 0 := by
  refine xov (cc := b_A_fill) (maxL := 5) (by decide) rfl (Nat.le_of_ble_eq_true rfl) ?_
  intro p e s m args below meth c Q A hx hb hml hts hown hN hA hS hP hK hD hret ls hl
  have hl : lv_has ls 5 [(0, .ref a), (1, .long (lI x))] := hl
  obtain ⟨H, hH⟩ : ∃ z, z = s.heap := ⟨_, rfl⟩
  obtain ⟨locs, hlc⟩ : ∃ z : List Loc, z = [] := ⟨_, rfl⟩
  rw [← hH] at hP
  have hS : va_S A s.heap H locs := by rw [hH, hlc]; exact hS
  have key : W p l e rm_c_fill s m args below meth c H locs 0 0 Q (F0 m 0 ls []) := by
    refine lv_iconst (v := nI 0) hx hb d_A_fill_0 (by decide) ?_
    refine lv_istore_n (lv' := [(3, .int (nI 0)), (0, .ref a), (1, .long (lI x))]) hx hb d_A_fill_1 rfl hl (by decide) rfl (fun ls hl => ?_)
    refine lv_aload_n hx hb d_A_fill_2 rfl (lv_at hl 1 rfl) ?_
    refine va_alen (v := nI n) hx hb hK hP 0 0 rfl rfl rfl d_A_fill_3 ?_
    refine lv_istore (lv' := [(4, .int (nI n)), (3, .int (nI 0)), (0, .ref a), (1, .long (lI x))]) hx hb d_A_fill_4 hl (by decide) rfl (fun ls hl => ?_)
    have lp_6 : ∀ (n_6 : Nat) (i : Nat) (G2 : Nat → Int) (H : Heap) (locs : List Loc) (ls : Array Slot), (i ≤ n) → (∀ k, k < i → G2 k = x) → (n - i) < n_6 → va_P D vwC [(a, LA cJ n G2)] H → va_D A [(a, LA cJ n G2)] → va_S A s.heap H locs → lv_has ls 5 [(0, .ref a), (1, .long (lI x)), (3, .int (nI i)), (4, .int (nI n))] → W p l e rm_c_fill s m args below meth c H locs 0 0 Q (F0 m 6 ls []) := by
      intro n_6
      induction n_6 with
      | zero => intro i G2 H locs ls hi hG hn_6; exact absurd hn_6 (Nat.not_lt_zero _)
      | succ n_6 ih_6 =>
        intro i G2 H locs ls hi hG hn_6 hP hD hS hl
        refine lv_iload_n hx hb d_A_fill_6 rfl (lv_at hl 2 rfl) ?_
        refine lv_iload hx hb d_A_fill_7 (lv_at hl 3 rfl) ?_
        refine xn_ge (tgt := 22) hx hb (by omega) (by omega) d_A_fill_9 (by decide) (fun c9_0 => ?_) (fun c9_0 => ?_)
        · skip
          exact hret H locs _ ls G2 d_A_fill_22 (fun k h => hG k (by omega)) hP hD hS
        · skip
          refine lv_aload_n hx hb d_A_fill_12 rfl (lv_at hl 0 rfl) ?_
          refine lv_iload_n hx hb d_A_fill_13 rfl (lv_at hl 2 rfl) ?_
          refine lv_lload_n hx hb d_A_fill_14 rfl (lv_at hl 1 rfl) ?_
          refine xl_ast hx hb hK hP hD hS 0 0 rfl rfl (k := i) (by omega) (by first | decide | omega) d_A_fill_15 (fun H locs hP hD hS => ?_)
          have hP : va_P D vwC [(a, LA cJ n (upZ G2 i x))] H := hP
          have hD : va_D A [(a, LA cJ n (upZ G2 i x))] := hD
          refine lv_iinc (v := nI (i + 1)) (lv' := [(3, .int (nI (i + 1))), (0, .ref a), (1, .long (lI x)), (4, .int (nI n))]) hx hb d_A_fill_16 hl (k := 2) rfl (nI_add _ _) (by decide) rfl (fun ls hl => ?_)
          refine lv_goto (tgt := 6) hx hb d_A_fill_19 (by decide) ?_
          exact ih_6 (i + 1) (upZ G2 i x) H locs ls (by omega) (fun k h => by unfold upZ; split; rfl; exact hG k (by omega)) (by omega) hP hD hS (lv_sub hl [1, 2, 0, 3] rfl)
    exact lp_6 ((n - 0) + 1) 0 G H locs ls (Nat.zero_le _) (fun k h => absurd h (Nat.not_lt_zero _)) (by omega) hP hD hS (lv_sub hl [2, 3, 1, 0] rfl)
  rw [hH, hlc] at key; exact key

def rm_c_diagonal : Room := { frames := 1, cells := 0, slots := 0, locals := 21 }
set_option maxHeartbeats 4000000 in
set_option maxRecDepth 100000 in
/-- the sum along the diagonal of the product -/
theorem c_diagonal (l : Launch) (D : va_G) (cJ : ClassId) (ht : Nat) (hc : Nat) (hf : Nat) (hp : Nat) (ho : Nat) (r : Nat) (C : Nat → Int) (F : Nat → Int) (P : Nat → Int) (O : Nat → Int) (hr : r ≤ 4) (sz : Nat) : xMl l y_T_diagonal (Cond.code y_T_diagonal b_T_diagonal 4 (some .long) :: tW) rm_c_diagonal [.ref ht] D vwC [(cJ, .long)] sz [(ht, .inr (0, [.int (nI r), .ref hc, .ref hf, .ref hp, .ref ho])), (hc, LA cJ 16 C), (hf, LA cJ 16 F), (hp, LA cJ 16 P), (ho, LA cJ 5 O)] (fun (rv : Int64) (_ : Unit) => rv = lI (diaN P r)) (fun (_ : Unit) => [(ht, .inr (0, [.int (nI r), .ref hc, .ref hf, .ref hp, .ref ho])), (hc, LA cJ 16 C), (hf, LA cJ 16 F), (hp, LA cJ 16 P), (ho, LA cJ 5 O)]) 0 0 := by
  refine xol (cc := b_T_diagonal) (maxL := 4) (by decide) rfl (Nat.le_of_ble_eq_true rfl) ?_
  intro p e s m args below meth c Q A hx hb hml hts hown hN hA hS hP hK hD hret ls hl
  have hl : lv_has ls 4 [(0, .ref ht)] := hl
  obtain ⟨H, hH⟩ : ∃ z, z = s.heap := ⟨_, rfl⟩
  obtain ⟨locs, hlc⟩ : ∃ z : List Loc, z = [] := ⟨_, rfl⟩
  rw [← hH] at hP
  have hS : va_S A s.heap H locs := by rw [hH, hlc]; exact hS
  have key : W p l e rm_c_diagonal s m args below meth c H locs 0 0 Q (F0 m 0 ls []) := by
    refine lv_lconst (v := lI 0) hx hb d_T_diagonal_0 (by decide) ?_
    refine lv_lstore_n (lv' := [(1, .long (lI 0)), (0, .ref ht)]) hx hb d_T_diagonal_1 rfl hl (by decide) rfl (fun ls hl => ?_)
    refine lv_iconst (v := nI 0) hx hb d_T_diagonal_2 (by decide) ?_
    refine lv_istore_n (lv' := [(3, .int (nI 0)), (1, .long (lI 0)), (0, .ref ht)]) hx hb d_T_diagonal_3 rfl hl (by decide) rfl (fun ls hl => ?_)
    have lp_4 : ∀ (n_4 : Nat) (i : Nat) (H : Heap) (locs : List Loc) (ls : Array Slot), (i ≤ r) → (r - i) < n_4 → va_P D vwC [(ht, .inr (0, [.int (nI r), .ref hc, .ref hf, .ref hp, .ref ho])), (hc, LA cJ 16 C), (hf, LA cJ 16 F), (hp, LA cJ 16 P), (ho, LA cJ 5 O)] H → va_D A [(ht, .inr (0, [.int (nI r), .ref hc, .ref hf, .ref hp, .ref ho])), (hc, LA cJ 16 C), (hf, LA cJ 16 F), (hp, LA cJ 16 P), (ho, LA cJ 5 O)] → va_S A s.heap H locs → lv_has ls 4 [(0, .ref ht), (1, .long (lI (diaN P i))), (3, .int (nI i))] → W p l e rm_c_diagonal s m args below meth c H locs 0 0 Q (F0 m 4 ls []) := by
      intro n_4
      induction n_4 with
      | zero => intro i H locs ls hi hn_4; exact absurd hn_4 (Nat.not_lt_zero _)
      | succ n_4 ih_4 =>
        intro i H locs ls hi hn_4 hP hD hS hl
        refine lv_iload_n hx hb d_T_diagonal_4 rfl (lv_at hl 2 rfl) ?_
        refine lv_aload_n hx hb d_T_diagonal_5 rfl (lv_at hl 0 rfl) ?_
        refine va_get (D := D) (ci := 0) (v := .int (nI r)) (C := R_T) (T := F_T) (N := 5) hx hb hts iw_T hown hK hP 0 rfl rfl 0 (by decide) (hts _ tw_25) (fun _ h9 => h9) rfl d_T_diagonal_6 ?_
        refine xn_ge (tgt := 31) hx hb (by omega) (by omega) d_T_diagonal_9 (by decide) (fun c9_0 => ?_) (fun c9_0 => ?_)
        · skip
          refine lv_lload_n hx hb d_T_diagonal_31 rfl (lv_at hl 1 rfl) ?_
          exact hret H locs _ ls (lI (diaN P i)) () d_T_diagonal_32 (by rw [show r = i from by omega]) hP hD hS
        · skip
          refine lv_lload_n hx hb d_T_diagonal_12 rfl (lv_at hl 1 rfl) ?_
          refine lv_aload_n hx hb d_T_diagonal_13 rfl (lv_at hl 0 rfl) ?_
          refine va_get (D := D) (ci := 0) (v := .ref hp) (C := R_T) (T := F_T) (N := 5) hx hb hts iw_T hown hK hP 0 rfl rfl 3 (by decide) (hts _ tw_28) (fun _ h9 => h9) rfl d_T_diagonal_14 ?_
          refine lv_iload_n hx hb d_T_diagonal_17 rfl (lv_at hl 2 rfl) ?_
          refine lv_iload_n hx hb d_T_diagonal_18 rfl (lv_at hl 2 rfl) ?_
          refine xci (wc := []) (wr := [(ht, .inr (0, [.int (nI r), .ref hc, .ref hf, .ref hp, .ref ho])), (hc, LA cJ 16 C), (hf, LA cJ 16 F), (hp, LA cJ 16 P), (ho, LA cJ 5 O)]) hP hD hS hA [] [0, 1, 2, 3, 4] rfl rfl (by decide) (by decide) (va_runSN (As := [.int (nI i), .int (nI i)]) (rest := [.ref hp, .long (lI (diaN P i))]) ⟨hx, hb, hml, hown, hts⟩ (c_place l D cJ i i H.size) ⟨va_cnB 2 hts (gN tw_88) rfl rfl rfl hN.1 (hts _ tw_1) hd_K_place ⟨Nat.le_of_ble_eq_true rfl, Nat.le_of_ble_eq_true rfl⟩, (hts _ tw_87), trivial⟩ (xPreS hN hK (hP.sub (ws' := []) [] rfl) (hD.sub (ws' := []) [] (by decide) rfl)) rfl rfl hl.1 rfl (lv_room (Nat.le_of_ble_eq_true rfl)) d_T_diagonal_19 ⟨Nat.le_of_ble_eq_true rfl, Nat.le_of_ble_eq_true rfl⟩) (fun r_2 u_3 H locs hw_4 hP hD hS => ?_)
          try dsimp only at hw_4
          have hP : va_P D vwC [(ht, .inr (0, [.int (nI r), .ref hc, .ref hf, .ref hp, .ref ho])), (hc, LA cJ 16 C), (hf, LA cJ 16 F), (hp, LA cJ 16 P), (ho, LA cJ 5 O)] H := hP
          have hD : va_D A [(ht, .inr (0, [.int (nI r), .ref hc, .ref hf, .ref hp, .ref ho])), (hc, LA cJ 16 C), (hf, LA cJ 16 F), (hp, LA cJ 16 P), (ho, LA cJ 5 O)] := hD
          subst hw_4
          refine xl_ald hx hb hK hP 3 0 rfl rfl (k := 4 * i + i) (by omega) (by first | decide | omega) d_T_diagonal_22 ?_
          refine xl_add hx hb d_T_diagonal_23 ?_
          refine lv_lstore_n (lv' := [(1, .long (lI ((diaN P i) + (P (4 * i + i))))), (0, .ref ht), (3, .int (nI i))]) hx hb d_T_diagonal_24 rfl hl (by decide) rfl (fun ls hl => ?_)
          refine lv_iinc (v := nI (i + 1)) (lv' := [(3, .int (nI (i + 1))), (1, .long (lI ((diaN P i) + (P (4 * i + i))))), (0, .ref ht)]) hx hb d_T_diagonal_25 hl (k := 2) rfl (nI_add _ _) (by decide) rfl (fun ls hl => ?_)
          refine lv_goto (tgt := 4) hx hb d_T_diagonal_28 (by decide) ?_
          exact ih_4 (i + 1) H locs ls (by omega) (by omega) hP hD hS (lv_sub hl [2, 1, 0] rfl)
    exact lp_4 ((r - 0) + 1) 0 H locs ls (Nat.zero_le _) (by omega) hP hD hS (lv_sub hl [2, 1, 0] rfl)
  rw [hH, hlc] at key; exact key

def rm_c_multiply : Room := { frames := 1, cells := 0, slots := 0, locals := 21 }
set_option maxHeartbeats 4000000 in
set_option maxRecDepth 100000 in
/-- product = cells times factor -/
theorem c_multiply (l : Launch) (D : va_G) (cJ : ClassId) (ht : Nat) (hc : Nat) (hf : Nat) (hp : Nat) (ho : Nat) (r : Nat) (C : Nat → Int) (F : Nat → Int) (P : Nat → Int) (O : Nat → Int) (hr : r ≤ 4) (sz : Nat) : xMv l y_T_multiply (Cond.code y_T_multiply b_T_multiply 6 none :: tW) rm_c_multiply [.ref ht] D vwC [(cJ, .long)] sz [(ht, .inr (0, [.int (nI r), .ref hc, .ref hf, .ref hp, .ref ho])), (hc, LA cJ 16 C), (hf, LA cJ 16 F), (hp, LA cJ 16 P), (ho, LA cJ 5 O)] (fun (uo : (Nat → Int)) => ∀ a b, a < r → b < r → uo (4 * a + b) = dotN C F a b r) (fun (uo : (Nat → Int)) => [(ht, .inr (0, [.int (nI r), .ref hc, .ref hf, .ref hp, .ref ho])), (hc, LA cJ 16 C), (hf, LA cJ 16 F), (hp, LA cJ 16 uo), (ho, LA cJ 5 O)]) 0 0 := by
  refine xov (cc := b_T_multiply) (maxL := 6) (by decide) rfl (Nat.le_of_ble_eq_true rfl) ?_
  intro p e s m args below meth c Q A hx hb hml hts hown hN hA hS hP hK hD hret ls hl
  have hl : lv_has ls 6 [(0, .ref ht)] := hl
  obtain ⟨H, hH⟩ : ∃ z, z = s.heap := ⟨_, rfl⟩
  obtain ⟨locs, hlc⟩ : ∃ z : List Loc, z = [] := ⟨_, rfl⟩
  rw [← hH] at hP
  have hS : va_S A s.heap H locs := by rw [hH, hlc]; exact hS
  have key : W p l e rm_c_multiply s m args below meth c H locs 0 0 Q (F0 m 0 ls []) := by
    refine lv_iconst (v := nI 0) hx hb d_T_multiply_0 (by decide) ?_
    refine lv_istore_n (lv' := [(1, .int (nI 0)), (0, .ref ht)]) hx hb d_T_multiply_1 rfl hl (by decide) rfl (fun ls hl => ?_)
    have lp_2 : ∀ (n_2 : Nat) (i : Nat) (P2 : Nat → Int) (H : Heap) (locs : List Loc) (ls : Array Slot), (i ≤ r) → (∀ a b, a < i → b < r → P2 (4 * a + b) = dotN C F a b r) → (r - i) < n_2 → va_P D vwC [(ht, .inr (0, [.int (nI r), .ref hc, .ref hf, .ref hp, .ref ho])), (hc, LA cJ 16 C), (hf, LA cJ 16 F), (hp, LA cJ 16 P2), (ho, LA cJ 5 O)] H → va_D A [(ht, .inr (0, [.int (nI r), .ref hc, .ref hf, .ref hp, .ref ho])), (hc, LA cJ 16 C), (hf, LA cJ 16 F), (hp, LA cJ 16 P2), (ho, LA cJ 5 O)] → va_S A s.heap H locs → lv_has ls 6 [(0, .ref ht), (1, .int (nI i))] → W p l e rm_c_multiply s m args below meth c H locs 0 0 Q (F0 m 2 ls []) := by
      intro n_2
      induction n_2 with
      | zero => intro i P2 H locs ls hi h1 hn_2; exact absurd hn_2 (Nat.not_lt_zero _)
      | succ n_2 ih_2 =>
        intro i P2 H locs ls hi h1 hn_2 hP hD hS hl
        refine lv_iload_n hx hb d_T_multiply_2 rfl (lv_at hl 1 rfl) ?_
        refine lv_aload_n hx hb d_T_multiply_3 rfl (lv_at hl 0 rfl) ?_
        refine va_get (D := D) (ci := 0) (v := .int (nI r)) (C := R_T) (T := F_T) (N := 5) hx hb hts iw_T hown hK hP 0 rfl rfl 0 (by decide) (hts _ tw_25) (fun _ h9 => h9) rfl d_T_multiply_4 ?_
        refine xn_ge (tgt := 89) hx hb (by omega) (by omega) d_T_multiply_7 (by decide) (fun c7_0 => ?_) (fun c7_0 => ?_)
        · skip
          exact hret H locs _ ls P2 d_T_multiply_89 (fun a b ha hb => h1 a b (by omega) hb) hP hD hS
        · skip
          refine lv_iconst (v := nI 0) hx hb d_T_multiply_10 (by decide) ?_
          refine lv_istore_n (lv' := [(2, .int (nI 0)), (0, .ref ht), (1, .int (nI i))]) hx hb d_T_multiply_11 rfl hl (by decide) rfl (fun ls hl => ?_)
          have lp_12 : ∀ (n_12 : Nat) (j : Nat) (P3 : Nat → Int) (H : Heap) (locs : List Loc) (ls : Array Slot), (j ≤ r) → (∀ a b, (a < i ∧ b < r) ∨ (a = i ∧ b < j) → P3 (4 * a + b) = dotN C F a b r) → (r - j) < n_12 → va_P D vwC [(ht, .inr (0, [.int (nI r), .ref hc, .ref hf, .ref hp, .ref ho])), (hc, LA cJ 16 C), (hf, LA cJ 16 F), (hp, LA cJ 16 P3), (ho, LA cJ 5 O)] H → va_D A [(ht, .inr (0, [.int (nI r), .ref hc, .ref hf, .ref hp, .ref ho])), (hc, LA cJ 16 C), (hf, LA cJ 16 F), (hp, LA cJ 16 P3), (ho, LA cJ 5 O)] → va_S A s.heap H locs → lv_has ls 6 [(0, .ref ht), (1, .int (nI i)), (2, .int (nI j))] → W p l e rm_c_multiply s m args below meth c H locs 0 0 Q (F0 m 12 ls []) := by
            intro n_12
            induction n_12 with
            | zero => intro j P3 H locs ls hj h2 hn_12; exact absurd hn_12 (Nat.not_lt_zero _)
            | succ n_12 ih_12 =>
              intro j P3 H locs ls hj h2 hn_12 hP hD hS hl
              refine lv_iload_n hx hb d_T_multiply_12 rfl (lv_at hl 2 rfl) ?_
              refine lv_aload_n hx hb d_T_multiply_13 rfl (lv_at hl 0 rfl) ?_
              refine va_get (D := D) (ci := 0) (v := .int (nI r)) (C := R_T) (T := F_T) (N := 5) hx hb hts iw_T hown hK hP 0 rfl rfl 0 (by decide) (hts _ tw_25) (fun _ h9 => h9) rfl d_T_multiply_14 ?_
              refine xn_ge (tgt := 83) hx hb (by omega) (by omega) d_T_multiply_17 (by decide) (fun c17_1 => ?_) (fun c17_1 => ?_)
              · skip
                refine lv_iinc (v := nI (i + 1)) (lv' := [(1, .int (nI (i + 1))), (0, .ref ht), (2, .int (nI j))]) hx hb d_T_multiply_83 hl (k := 1) rfl (nI_add _ _) (by decide) rfl (fun ls hl => ?_)
                refine lv_goto (tgt := 2) hx hb d_T_multiply_86 (by decide) ?_
                exact ih_2 (i + 1) P3 H locs ls (by omega) (fun a b ha hb => h2 a b (by omega)) (by omega) hP hD hS (lv_sub hl [1, 0] rfl)
              · skip
                refine lv_lconst (v := lI 0) hx hb d_T_multiply_20 (by decide) ?_
                refine lv_lstore_n (lv' := [(3, .long (lI 0)), (0, .ref ht), (1, .int (nI i)), (2, .int (nI j))]) hx hb d_T_multiply_21 rfl hl (by decide) rfl (fun ls hl => ?_)
                refine lv_iconst (v := nI 0) hx hb d_T_multiply_22 (by decide) ?_
                refine lv_istore (lv' := [(5, .int (nI 0)), (3, .long (lI 0)), (0, .ref ht), (1, .int (nI i)), (2, .int (nI j))]) hx hb d_T_multiply_23 hl (by decide) rfl (fun ls hl => ?_)
                have lp_25 : ∀ (n_25 : Nat) (t : Nat) (H : Heap) (locs : List Loc) (ls : Array Slot), (t ≤ r) → (r - t) < n_25 → va_P D vwC [(ht, .inr (0, [.int (nI r), .ref hc, .ref hf, .ref hp, .ref ho])), (hc, LA cJ 16 C), (hf, LA cJ 16 F), (hp, LA cJ 16 P3), (ho, LA cJ 5 O)] H → va_D A [(ht, .inr (0, [.int (nI r), .ref hc, .ref hf, .ref hp, .ref ho])), (hc, LA cJ 16 C), (hf, LA cJ 16 F), (hp, LA cJ 16 P3), (ho, LA cJ 5 O)] → va_S A s.heap H locs → lv_has ls 6 [(0, .ref ht), (1, .int (nI i)), (2, .int (nI j)), (3, .long (lI (dotN C F i j t))), (5, .int (nI t))] → W p l e rm_c_multiply s m args below meth c H locs 0 0 Q (F0 m 25 ls []) := by
                  intro n_25
                  induction n_25 with
                  | zero => intro t H locs ls hk hn_25; exact absurd hn_25 (Nat.not_lt_zero _)
                  | succ n_25 ih_25 =>
                    intro t H locs ls hk hn_25 hP hD hS hl
                    refine lv_iload hx hb d_T_multiply_25 (lv_at hl 4 rfl) ?_
                    refine lv_aload_n hx hb d_T_multiply_27 rfl (lv_at hl 0 rfl) ?_
                    refine va_get (D := D) (ci := 0) (v := .int (nI r)) (C := R_T) (T := F_T) (N := 5) hx hb hts iw_T hown hK hP 0 rfl rfl 0 (by decide) (hts _ tw_25) (fun _ h9 => h9) rfl d_T_multiply_28 ?_
                    refine xn_ge (tgt := 66) hx hb (by omega) (by omega) d_T_multiply_31 (by decide) (fun c31_2 => ?_) (fun c31_2 => ?_)
                    · skip
                      refine lv_aload_n hx hb d_T_multiply_66 rfl (lv_at hl 0 rfl) ?_
                      refine va_get (D := D) (ci := 0) (v := .ref hp) (C := R_T) (T := F_T) (N := 5) hx hb hts iw_T hown hK hP 0 rfl rfl 3 (by decide) (hts _ tw_28) (fun _ h9 => h9) rfl d_T_multiply_67 ?_
                      refine lv_iload_n hx hb d_T_multiply_70 rfl (lv_at hl 1 rfl) ?_
                      refine lv_iload_n hx hb d_T_multiply_71 rfl (lv_at hl 2 rfl) ?_
                      refine xci (wc := []) (wr := [(ht, .inr (0, [.int (nI r), .ref hc, .ref hf, .ref hp, .ref ho])), (hc, LA cJ 16 C), (hf, LA cJ 16 F), (hp, LA cJ 16 P3), (ho, LA cJ 5 O)]) hP hD hS hA [] [0, 1, 2, 3, 4] rfl rfl (by decide) (by decide) (va_runSN (As := [.int (nI i), .int (nI j)]) (rest := [.ref hp]) ⟨hx, hb, hml, hown, hts⟩ (c_place l D cJ i j H.size) ⟨va_cnB 2 hts (gN tw_88) rfl rfl rfl hN.1 (hts _ tw_1) hd_K_place ⟨Nat.le_of_ble_eq_true rfl, Nat.le_of_ble_eq_true rfl⟩, (hts _ tw_87), trivial⟩ (xPreS hN hK (hP.sub (ws' := []) [] rfl) (hD.sub (ws' := []) [] (by decide) rfl)) rfl rfl hl.1 rfl (lv_room (Nat.le_of_ble_eq_true rfl)) d_T_multiply_72 ⟨Nat.le_of_ble_eq_true rfl, Nat.le_of_ble_eq_true rfl⟩) (fun r_4 u_5 H locs hw_6 hP hD hS => ?_)
                      try dsimp only at hw_6
                      have hP : va_P D vwC [(ht, .inr (0, [.int (nI r), .ref hc, .ref hf, .ref hp, .ref ho])), (hc, LA cJ 16 C), (hf, LA cJ 16 F), (hp, LA cJ 16 P3), (ho, LA cJ 5 O)] H := hP
                      have hD : va_D A [(ht, .inr (0, [.int (nI r), .ref hc, .ref hf, .ref hp, .ref ho])), (hc, LA cJ 16 C), (hf, LA cJ 16 F), (hp, LA cJ 16 P3), (ho, LA cJ 5 O)] := hD
                      subst hw_6
                      refine lv_lload_n hx hb d_T_multiply_75 rfl (lv_at hl 3 rfl) ?_
                      refine xl_ast hx hb hK hP hD hS 3 0 rfl rfl (k := 4 * i + j) (by omega) (by first | decide | omega) d_T_multiply_76 (fun H locs hP hD hS => ?_)
                      have hP : va_P D vwC [(ht, .inr (0, [.int (nI r), .ref hc, .ref hf, .ref hp, .ref ho])), (hc, LA cJ 16 C), (hf, LA cJ 16 F), (hp, LA cJ 16 (upZ P3 (4 * i + j) (dotN C F i j t))), (ho, LA cJ 5 O)] H := hP
                      have hD : va_D A [(ht, .inr (0, [.int (nI r), .ref hc, .ref hf, .ref hp, .ref ho])), (hc, LA cJ 16 C), (hf, LA cJ 16 F), (hp, LA cJ 16 (upZ P3 (4 * i + j) (dotN C F i j t))), (ho, LA cJ 5 O)] := hD
                      refine lv_iinc (v := nI (j + 1)) (lv' := [(2, .int (nI (j + 1))), (0, .ref ht), (1, .int (nI i)), (3, .long (lI (dotN C F i j t))), (5, .int (nI t))]) hx hb d_T_multiply_77 hl (k := 2) rfl (nI_add _ _) (by decide) rfl (fun ls hl => ?_)
                      refine lv_goto (tgt := 12) hx hb d_T_multiply_80 (by decide) ?_
                      exact ih_12 (j + 1) (upZ P3 (4 * i + j) (dotN C F i j t)) H locs ls (by omega) (fun a b h => by by_cases q : a = i ∧ b = j; obtain ⟨rfl, rfl⟩ := q; rw [upZ_at, show r = t from by omega]; rw [upZ_ne (k := 4 * i + j) (j := 4 * a + b) _ _ (by omega)]; exact h2 a b (by omega)) (by omega) hP hD hS (lv_sub hl [1, 2, 0] rfl)
                    · skip
                      refine lv_lload_n hx hb d_T_multiply_34 rfl (lv_at hl 3 rfl) ?_
                      refine lv_aload_n hx hb d_T_multiply_35 rfl (lv_at hl 0 rfl) ?_
                      refine va_get (D := D) (ci := 0) (v := .ref hc) (C := R_T) (T := F_T) (N := 5) hx hb hts iw_T hown hK hP 0 rfl rfl 1 (by decide) (hts _ tw_26) (fun _ h9 => h9) rfl d_T_multiply_36 ?_
                      refine lv_iload_n hx hb d_T_multiply_39 rfl (lv_at hl 1 rfl) ?_
                      refine lv_iload hx hb d_T_multiply_40 (lv_at hl 4 rfl) ?_
                      refine xci (wc := []) (wr := [(ht, .inr (0, [.int (nI r), .ref hc, .ref hf, .ref hp, .ref ho])), (hc, LA cJ 16 C), (hf, LA cJ 16 F), (hp, LA cJ 16 P3), (ho, LA cJ 5 O)]) hP hD hS hA [] [0, 1, 2, 3, 4] rfl rfl (by decide) (by decide) (va_runSN (As := [.int (nI i), .int (nI t)]) (rest := [.ref hc, .long (lI (dotN C F i j t))]) ⟨hx, hb, hml, hown, hts⟩ (c_place l D cJ i t H.size) ⟨va_cnB 2 hts (gN tw_88) rfl rfl rfl hN.1 (hts _ tw_1) hd_K_place ⟨Nat.le_of_ble_eq_true rfl, Nat.le_of_ble_eq_true rfl⟩, (hts _ tw_87), trivial⟩ (xPreS hN hK (hP.sub (ws' := []) [] rfl) (hD.sub (ws' := []) [] (by decide) rfl)) rfl rfl hl.1 rfl (lv_room (Nat.le_of_ble_eq_true rfl)) d_T_multiply_42 ⟨Nat.le_of_ble_eq_true rfl, Nat.le_of_ble_eq_true rfl⟩) (fun r_7 u_8 H locs hw_9 hP hD hS => ?_)
                      try dsimp only at hw_9
                      have hP : va_P D vwC [(ht, .inr (0, [.int (nI r), .ref hc, .ref hf, .ref hp, .ref ho])), (hc, LA cJ 16 C), (hf, LA cJ 16 F), (hp, LA cJ 16 P3), (ho, LA cJ 5 O)] H := hP
                      have hD : va_D A [(ht, .inr (0, [.int (nI r), .ref hc, .ref hf, .ref hp, .ref ho])), (hc, LA cJ 16 C), (hf, LA cJ 16 F), (hp, LA cJ 16 P3), (ho, LA cJ 5 O)] := hD
                      subst hw_9
                      refine xl_ald hx hb hK hP 1 0 rfl rfl (k := 4 * i + t) (by omega) (by first | decide | omega) d_T_multiply_45 ?_
                      refine lv_aload_n hx hb d_T_multiply_46 rfl (lv_at hl 0 rfl) ?_
                      refine va_get (D := D) (ci := 0) (v := .ref hf) (C := R_T) (T := F_T) (N := 5) hx hb hts iw_T hown hK hP 0 rfl rfl 2 (by decide) (hts _ tw_27) (fun _ h9 => h9) rfl d_T_multiply_47 ?_
                      refine lv_iload hx hb d_T_multiply_50 (lv_at hl 4 rfl) ?_
                      refine lv_iload_n hx hb d_T_multiply_52 rfl (lv_at hl 2 rfl) ?_
                      refine xci (wc := []) (wr := [(ht, .inr (0, [.int (nI r), .ref hc, .ref hf, .ref hp, .ref ho])), (hc, LA cJ 16 C), (hf, LA cJ 16 F), (hp, LA cJ 16 P3), (ho, LA cJ 5 O)]) hP hD hS hA [] [0, 1, 2, 3, 4] rfl rfl (by decide) (by decide) (va_runSN (As := [.int (nI t), .int (nI j)]) (rest := [.ref hf, .long (lI (C (4 * i + t))), .long (lI (dotN C F i j t))]) ⟨hx, hb, hml, hown, hts⟩ (c_place l D cJ t j H.size) ⟨va_cnB 2 hts (gN tw_88) rfl rfl rfl hN.1 (hts _ tw_1) hd_K_place ⟨Nat.le_of_ble_eq_true rfl, Nat.le_of_ble_eq_true rfl⟩, (hts _ tw_87), trivial⟩ (xPreS hN hK (hP.sub (ws' := []) [] rfl) (hD.sub (ws' := []) [] (by decide) rfl)) rfl rfl hl.1 rfl (lv_room (Nat.le_of_ble_eq_true rfl)) d_T_multiply_53 ⟨Nat.le_of_ble_eq_true rfl, Nat.le_of_ble_eq_true rfl⟩) (fun r_10 u_11 H locs hw_12 hP hD hS => ?_)
                      try dsimp only at hw_12
                      have hP : va_P D vwC [(ht, .inr (0, [.int (nI r), .ref hc, .ref hf, .ref hp, .ref ho])), (hc, LA cJ 16 C), (hf, LA cJ 16 F), (hp, LA cJ 16 P3), (ho, LA cJ 5 O)] H := hP
                      have hD : va_D A [(ht, .inr (0, [.int (nI r), .ref hc, .ref hf, .ref hp, .ref ho])), (hc, LA cJ 16 C), (hf, LA cJ 16 F), (hp, LA cJ 16 P3), (ho, LA cJ 5 O)] := hD
                      subst hw_12
                      refine xl_ald hx hb hK hP 2 0 rfl rfl (k := 4 * t + j) (by omega) (by first | decide | omega) d_T_multiply_56 ?_
                      refine xl_mul hx hb d_T_multiply_57 ?_
                      refine xl_add hx hb d_T_multiply_58 ?_
                      refine lv_lstore_n (lv' := [(3, .long (lI ((dotN C F i j t) + ((C (4 * i + t)) * (F (4 * t + j)))))), (0, .ref ht), (1, .int (nI i)), (2, .int (nI j)), (5, .int (nI t))]) hx hb d_T_multiply_59 rfl hl (by decide) rfl (fun ls hl => ?_)
                      refine lv_iinc (v := nI (t + 1)) (lv' := [(5, .int (nI (t + 1))), (3, .long (lI ((dotN C F i j t) + ((C (4 * i + t)) * (F (4 * t + j)))))), (0, .ref ht), (1, .int (nI i)), (2, .int (nI j))]) hx hb d_T_multiply_60 hl (k := 4) rfl (nI_add _ _) (by decide) rfl (fun ls hl => ?_)
                      refine lv_goto (tgt := 25) hx hb d_T_multiply_63 (by decide) ?_
                      exact ih_25 (t + 1) H locs ls (by omega) (by omega) hP hD hS (lv_sub hl [2, 3, 4, 1, 0] rfl)
                exact lp_25 ((r - 0) + 1) 0 H locs ls (Nat.zero_le _) (by omega) hP hD hS (lv_sub hl [2, 3, 4, 1, 0] rfl)
          exact lp_12 ((r - 0) + 1) 0 P2 H locs ls (Nat.zero_le _) (fun a b h => h1 a b (by omega) (by omega)) (by omega) hP hD hS (lv_sub hl [1, 2, 0] rfl)
    exact lp_2 ((r - 0) + 1) 0 P H locs ls (Nat.zero_le _) (fun a b h => absurd h (Nat.not_lt_zero _)) (by omega) hP hD hS (lv_sub hl [1, 0] rfl)
  rw [hH, hlc] at key; exact key

def rm_c_expand : Room := { frames := 2, cells := 0, slots := 0, locals := 60 }
set_option maxHeartbeats 4000000 in
set_option maxRecDepth 100000 in
/-- the polynomial and the adjugate -/
theorem c_expand (l : Launch) (D : va_G) (cJ : ClassId) (ht : Nat) (hc : Nat) (hf : Nat) (hp : Nat) (ho : Nat) (r : Nat) (C : Nat → Int) (F : Nat → Int) (P : Nat → Int) (O : Nat → Int) (hr1 : 1 ≤ r) (hr : r ≤ 4) (hq : ∀ k, k < r → lB (-(diaN (flM C r (k + 1)).1 r))) (sz : Nat) : xMv l y_T_expand (Cond.code y_T_expand b_T_expand 3 none :: tW) rm_c_expand [.ref ht] D vwC [(cJ, .long)] sz [(ht, .inr (0, [.int (nI r), .ref hc, .ref hf, .ref hp, .ref ho])), (hc, LA cJ 16 C), (hf, LA cJ 16 F), (hp, LA cJ 16 P), (ho, LA cJ 5 O)] (fun (uo : (Nat → Int) × (Nat → Int) × (Nat → Int)) => flOK C r uo.1 uo.2.2) (fun (uo : (Nat → Int) × (Nat → Int) × (Nat → Int)) => [(ht, .inr (0, [.int (nI r), .ref hc, .ref hf, .ref hp, .ref ho])), (hc, LA cJ 16 C), (hf, LA cJ 16 uo.1), (hp, LA cJ 16 uo.2.1), (ho, LA cJ 5 uo.2.2)]) 0 0 := by
  refine xov (cc := b_T_expand) (maxL := 3) (by decide) rfl (Nat.le_of_ble_eq_true rfl) ?_
  intro p e s m args below meth c Q A hx hb hml hts hown hN hA hS hP hK hD hret ls hl
  have hl : lv_has ls 3 [(0, .ref ht)] := hl
  obtain ⟨H, hH⟩ : ∃ z, z = s.heap := ⟨_, rfl⟩
  obtain ⟨locs, hlc⟩ : ∃ z : List Loc, z = [] := ⟨_, rfl⟩
  rw [← hH] at hP
  have hS : va_S A s.heap H locs := by rw [hH, hlc]; exact hS
  have key : W p l e rm_c_expand s m args below meth c H locs 0 0 Q (F0 m 0 ls []) := by
    refine lv_aload_n hx hb d_T_expand_0 rfl (lv_at hl 0 rfl) ?_
    refine va_get (D := D) (ci := 0) (v := .ref hp) (C := R_T) (T := F_T) (N := 5) hx hb hts iw_T hown hK hP 0 rfl rfl 3 (by decide) (hts _ tw_28) (fun _ h9 => h9) rfl d_T_expand_1 ?_
    refine lv_lconst (v := lI 0) hx hb d_T_expand_4 (by decide) ?_
    refine xcv (wc := [(hp, LA cJ 16 P)]) (wr := [(ht, .inr (0, [.int (nI r), .ref hc, .ref hf, .ref hp, .ref ho])), (hc, LA cJ 16 C), (hf, LA cJ 16 F), (ho, LA cJ 5 O)]) hP hD hS hA [3] [0, 1, 2, 4] rfl rfl (by decide) (by decide) (va_runS (As := [.ref hp, .long (lI 0)]) (rest := []) ⟨hx, hb, hml, hown, hts⟩ (c_fill l D cJ hp 16 P 0 (by first | assumption | omega) H.size) (va_cwS 2 hts (gSJ tw_106 tw_72 tw_4 tw_73) rfl rfl rfl hd_A_fill ⟨Nat.le_of_ble_eq_true rfl, Nat.le_of_ble_eq_true rfl⟩) (xPreS hN hK (hP.sub (ws' := [(hp, LA cJ 16 P)]) [3] rfl) (hD.sub (ws' := [(hp, LA cJ 16 P)]) [3] (by decide) rfl)) rfl rfl hl.1 rfl (lv_room (Nat.le_of_ble_eq_true rfl)) d_T_expand_5 ⟨Nat.le_of_ble_eq_true rfl, Nat.le_of_ble_eq_true rfl⟩) (fun u_2 H locs hfill hP hD hS => ?_)
    obtain ⟨P0, rfl⟩ : ∃ z, z = u_2 := ⟨_, rfl⟩
    try dsimp only at hfill
    have hP : va_P D vwC [(ht, .inr (0, [.int (nI r), .ref hc, .ref hf, .ref hp, .ref ho])), (hc, LA cJ 16 C), (hf, LA cJ 16 F), (hp, LA cJ 16 P0), (ho, LA cJ 5 O)] H := hP.sub [0, 1, 2, 4, 3] rfl
    have hD : va_D A [(ht, .inr (0, [.int (nI r), .ref hc, .ref hf, .ref hp, .ref ho])), (hc, LA cJ 16 C), (hf, LA cJ 16 F), (hp, LA cJ 16 P0), (ho, LA cJ 5 O)] := hD.sub [0, 1, 2, 4, 3] (by decide) rfl
    refine lv_aload_n hx hb d_T_expand_8 rfl (lv_at hl 0 rfl) ?_
    refine va_get (D := D) (ci := 0) (v := .ref ho) (C := R_T) (T := F_T) (N := 5) hx hb hts iw_T hown hK hP 0 rfl rfl 4 (by decide) (hts _ tw_29) (fun _ h9 => h9) rfl d_T_expand_9 ?_
    refine lv_aload_n hx hb d_T_expand_12 rfl (lv_at hl 0 rfl) ?_
    refine va_get (D := D) (ci := 0) (v := .int (nI r)) (C := R_T) (T := F_T) (N := 5) hx hb hts iw_T hown hK hP 0 rfl rfl 0 (by decide) (hts _ tw_25) (fun _ h9 => h9) rfl d_T_expand_13 ?_
    refine lv_lconst (v := lI 1) hx hb d_T_expand_16 (by decide) ?_
    refine xl_ast hx hb hK hP hD hS 4 0 rfl rfl (k := r) (by omega) (by first | decide | omega) d_T_expand_17 (fun H locs hP hD hS => ?_)
    have hP : va_P D vwC [(ht, .inr (0, [.int (nI r), .ref hc, .ref hf, .ref hp, .ref ho])), (hc, LA cJ 16 C), (hf, LA cJ 16 F), (hp, LA cJ 16 P0), (ho, LA cJ 5 (upZ O r 1))] H := hP
    have hD : va_D A [(ht, .inr (0, [.int (nI r), .ref hc, .ref hf, .ref hp, .ref ho])), (hc, LA cJ 16 C), (hf, LA cJ 16 F), (hp, LA cJ 16 P0), (ho, LA cJ 5 (upZ O r 1))] := hD
    refine lv_iconst (v := nI 1) hx hb d_T_expand_18 (by decide) ?_
    refine lv_istore_n (lv' := [(1, .int (nI 1)), (0, .ref ht)]) hx hb d_T_expand_19 rfl hl (by decide) rfl (fun ls hl => ?_)
    have lp_20 : ∀ (n_20 : Nat) (j : Nat) (F1 : Nat → Int) (P1 : Nat → Int) (O1 : Nat → Int) (H : Heap) (locs : List Loc) (ls : Array Slot), (j ≤ r) → (∀ a b, a < r → b < r → P1 (4 * a + b) = (flM C r j).1 (4 * a + b)) → (∀ i, i ≤ j → O1 (r - i) = (flM C r i).2) → (1 ≤ j → ∀ a b, a < r → b < r → F1 (4 * a + b) = flF C r (j - 1) (4 * a + b)) → (r - j) < n_20 → va_P D vwC [(ht, .inr (0, [.int (nI r), .ref hc, .ref hf, .ref hp, .ref ho])), (hc, LA cJ 16 C), (hf, LA cJ 16 F1), (hp, LA cJ 16 P1), (ho, LA cJ 5 O1)] H → va_D A [(ht, .inr (0, [.int (nI r), .ref hc, .ref hf, .ref hp, .ref ho])), (hc, LA cJ 16 C), (hf, LA cJ 16 F1), (hp, LA cJ 16 P1), (ho, LA cJ 5 O1)] → va_S A s.heap H locs → lv_has ls 3 [(0, .ref ht), (1, .int (nI (j + 1)))] → W p l e rm_c_expand s m args below meth c H locs 0 0 Q (F0 m 20 ls []) := by
      intro n_20
      induction n_20 with
      | zero => intro j F1 P1 O1 H locs ls hj hP1 hO1 hF1 hn_20; exact absurd hn_20 (Nat.not_lt_zero _)
      | succ n_20 ih_20 =>
        intro j F1 P1 O1 H locs ls hj hP1 hO1 hF1 hn_20 hP hD hS hl
        refine lv_iload_n hx hb d_T_expand_20 rfl (lv_at hl 1 rfl) ?_
        refine lv_aload_n hx hb d_T_expand_21 rfl (lv_at hl 0 rfl) ?_
        refine va_get (D := D) (ci := 0) (v := .int (nI r)) (C := R_T) (T := F_T) (N := 5) hx hb hts iw_T hown hK hP 0 rfl rfl 0 (by decide) (hts _ tw_25) (fun _ h9 => h9) rfl d_T_expand_22 ?_
        refine xn_gt (tgt := 114) hx hb (by omega) (by omega) d_T_expand_25 (by decide) (fun c25_2 => ?_) (fun c25_2 => ?_)
        · skip
          exact hret H locs _ ls (F1, P1, O1) d_T_expand_114 ⟨fun i hi => hO1 i (by omega), fun a b ha hb => (hF1 (by omega) a b ha hb).trans (by rw [show j = r from by omega])⟩ hP hD hS
        · skip
          refine lv_aload_n hx hb d_T_expand_28 rfl (lv_at hl 0 rfl) ?_
          refine va_get (D := D) (ci := 0) (v := .ref hp) (C := R_T) (T := F_T) (N := 5) hx hb hts iw_T hown hK hP 0 rfl rfl 3 (by decide) (hts _ tw_28) (fun _ h9 => h9) rfl d_T_expand_29 ?_
          refine lv_iconst (v := nI 0) hx hb d_T_expand_32 (by decide) ?_
          refine lv_aload_n hx hb d_T_expand_33 rfl (lv_at hl 0 rfl) ?_
          refine va_get (D := D) (ci := 0) (v := .ref hf) (C := R_T) (T := F_T) (N := 5) hx hb hts iw_T hown hK hP 0 rfl rfl 2 (by decide) (hts _ tw_27) (fun _ h9 => h9) rfl d_T_expand_34 ?_
          refine lv_iconst (v := nI 0) hx hb d_T_expand_37 (by decide) ?_
          refine lv_bipush (v := nI 16) hx hb d_T_expand_38 (by decide) ?_
          refine xl_copy hx hb (by rw [hml]; exact hl.1.symm) hown (hts _ tw_107) (hts _ tw_109) (hts _ tw_108) (hts _ tw_5) hK hP hD hS 3 2 0 rfl rfl rfl (n := 16) (by omega) (by omega) (by omega) (Nat.le_of_ble_eq_true rfl) (by decide +kernel) d_T_expand_40 (fun H locs hP hD hS => ?_)
          have hP : va_P D vwC [(ht, .inr (0, [.int (nI r), .ref hc, .ref hf, .ref hp, .ref ho])), (hc, LA cJ 16 C), (hf, LA cJ 16 (cpZ P1 F1 16)), (hp, LA cJ 16 P1), (ho, LA cJ 5 O1)] H := hP
          have hD : va_D A [(ht, .inr (0, [.int (nI r), .ref hc, .ref hf, .ref hp, .ref ho])), (hc, LA cJ 16 C), (hf, LA cJ 16 (cpZ P1 F1 16)), (hp, LA cJ 16 P1), (ho, LA cJ 5 O1)] := hD
          refine lv_iconst (v := nI 0) hx hb d_T_expand_43 (by decide) ?_
          refine lv_istore_n (lv' := [(2, .int (nI 0)), (0, .ref ht), (1, .int (nI (j + 1)))]) hx hb d_T_expand_44 rfl hl (by decide) rfl (fun ls hl => ?_)
          have lp_45 : ∀ (n_45 : Nat) (i : Nat) (F3 : Nat → Int) (H : Heap) (locs : List Loc) (ls : Array Slot), (i ≤ r) → (∀ a b, a < r → b < r → F3 (4 * a + b) = P1 (4 * a + b) + (if a = b ∧ a < i then (flM C r j).2 else 0)) → (r - i) < n_45 → va_P D vwC [(ht, .inr (0, [.int (nI r), .ref hc, .ref hf, .ref hp, .ref ho])), (hc, LA cJ 16 C), (hf, LA cJ 16 F3), (hp, LA cJ 16 P1), (ho, LA cJ 5 O1)] H → va_D A [(ht, .inr (0, [.int (nI r), .ref hc, .ref hf, .ref hp, .ref ho])), (hc, LA cJ 16 C), (hf, LA cJ 16 F3), (hp, LA cJ 16 P1), (ho, LA cJ 5 O1)] → va_S A s.heap H locs → lv_has ls 3 [(0, .ref ht), (1, .int (nI (j + 1))), (2, .int (nI i))] → W p l e rm_c_expand s m args below meth c H locs 0 0 Q (F0 m 45 ls []) := by
            intro n_45
            induction n_45 with
            | zero => intro i F3 H locs ls hi hF3 hn_45; exact absurd hn_45 (Nat.not_lt_zero _)
            | succ n_45 ih_45 =>
              intro i F3 H locs ls hi hF3 hn_45 hP hD hS hl
              refine lv_iload_n hx hb d_T_expand_45 rfl (lv_at hl 2 rfl) ?_
              refine lv_aload_n hx hb d_T_expand_46 rfl (lv_at hl 0 rfl) ?_
              refine va_get (D := D) (ci := 0) (v := .int (nI r)) (C := R_T) (T := F_T) (N := 5) hx hb hts iw_T hown hK hP 0 rfl rfl 0 (by decide) (hts _ tw_25) (fun _ h9 => h9) rfl d_T_expand_47 ?_
              refine xn_ge (tgt := 85) hx hb (by omega) (by omega) d_T_expand_50 (by decide) (fun c50_3 => ?_) (fun c50_3 => ?_)
              · skip
                refine lv_aload_n hx hb d_T_expand_85 rfl (lv_at hl 0 rfl) ?_
                refine xcv (wc := [(ht, .inr (0, [.int (nI r), .ref hc, .ref hf, .ref hp, .ref ho])), (hc, LA cJ 16 C), (hf, LA cJ 16 F3), (hp, LA cJ 16 P1), (ho, LA cJ 5 O1)]) (wr := []) hP hD hS hA [0, 1, 2, 3, 4] [] rfl rfl (by decide) (by decide) (va_runV (As := []) (rest := []) ⟨hx, hb, hml, hown, hts⟩ (c_multiply l D cJ ht hc hf hp ho r C F3 P1 O1 (by first | assumption | omega) H.size) (cwV 0 hts (gV tw_110 tw_112 tws_3 tw_2 tw_113) rfl rfl rfl ⟨rfl, hd_T_multiply⟩ ⟨Nat.le_of_ble_eq_true rfl, Nat.le_of_ble_eq_true rfl⟩) (xPreV (C := R_T) (T := F_T) (N := 5) (q0 := 0) hN hK (hP.sub (ws' := [(ht, .inr (0, [.int (nI r), .ref hc, .ref hf, .ref hp, .ref ho])), (hc, LA cJ 16 C), (hf, LA cJ 16 F3), (hp, LA cJ 16 P1), (ho, LA cJ 5 O1)]) [0, 1, 2, 3, 4] rfl) (hD.sub (ws' := [(ht, .inr (0, [.int (nI r), .ref hc, .ref hf, .ref hp, .ref ho])), (hc, LA cJ 16 C), (hf, LA cJ 16 F3), (hp, LA cJ 16 P1), (ho, LA cJ 5 O1)]) [0, 1, 2, 3, 4] (by decide) rfl) rfl rfl) rfl rfl hl.1 rfl (lv_room (Nat.le_of_ble_eq_true rfl)) d_T_expand_86 ⟨Nat.le_of_ble_eq_true rfl, Nat.le_of_ble_eq_true rfl⟩) (fun u_6 H locs hmul hP hD hS => ?_)
                obtain ⟨P4, rfl⟩ : ∃ z, z = u_6 := ⟨_, rfl⟩
                try dsimp only at hmul
                have hP : va_P D vwC [(ht, .inr (0, [.int (nI r), .ref hc, .ref hf, .ref hp, .ref ho])), (hc, LA cJ 16 C), (hf, LA cJ 16 F3), (hp, LA cJ 16 P4), (ho, LA cJ 5 O1)] H := hP
                have hD : va_D A [(ht, .inr (0, [.int (nI r), .ref hc, .ref hf, .ref hp, .ref ho])), (hc, LA cJ 16 C), (hf, LA cJ 16 F3), (hp, LA cJ 16 P4), (ho, LA cJ 5 O1)] := hD
                have hF4 : ∀ a b, a < r → b < r → F3 (4 * a + b) = flF C r j (4 * a + b) := by
                  intro a b ha hb
                  rw [hF3 a b ha hb, hP1 a b ha hb]
                  unfold flF
                  congr 1
                  rw [q4d a (show b < 4 from by omega), q4m a (show b < 4 from by omega)]
                  by_cases q : a = b
                  · rw [if_pos ⟨q, by omega⟩, if_pos q]
                  · rw [if_neg (fun z => q z.1), if_neg q]
                have hP4 : ∀ a b, a < r → b < r → P4 (4 * a + b) = (flM C r (j + 1)).1 (4 * a + b) := by
                  intro a b ha hb
                  rw [hmul a b ha hb, flM_1]
                  show _ = dotN C (flF C r j) ((4 * a + b) / 4) ((4 * a + b) % 4) r
                  rw [q4d a (show b < 4 from by omega), q4m a (show b < 4 from by omega)]
                  exact dotN_congr (fun t ht => hF4 t b ht hb)
                have hdia : diaN P4 r = diaN (flM C r (j + 1)).1 r := diaN_congr (fun t ht => hP4 t t ht ht)
                refine lv_aload_n hx hb d_T_expand_89 rfl (lv_at hl 0 rfl) ?_
                refine va_get (D := D) (ci := 0) (v := .ref ho) (C := R_T) (T := F_T) (N := 5) hx hb hts iw_T hown hK hP 0 rfl rfl 4 (by decide) (hts _ tw_29) (fun _ h9 => h9) rfl d_T_expand_90 ?_
                refine lv_aload_n hx hb d_T_expand_93 rfl (lv_at hl 0 rfl) ?_
                refine va_get (D := D) (ci := 0) (v := .int (nI r)) (C := R_T) (T := F_T) (N := 5) hx hb hts iw_T hown hK hP 0 rfl rfl 0 (by decide) (hts _ tw_25) (fun _ h9 => h9) rfl d_T_expand_94 ?_
                refine lv_iload_n hx hb d_T_expand_97 rfl (lv_at hl 1 rfl) ?_
                refine xn_sub hx hb (by omega) d_T_expand_98 ?_
                refine lv_aload_n hx hb d_T_expand_99 rfl (lv_at hl 0 rfl) ?_
                refine xcl (wc := [(ht, .inr (0, [.int (nI r), .ref hc, .ref hf, .ref hp, .ref ho])), (hc, LA cJ 16 C), (hf, LA cJ 16 F3), (hp, LA cJ 16 P4), (ho, LA cJ 5 O1)]) (wr := []) hP hD hS hA [0, 1, 2, 3, 4] [] rfl rfl (by decide) (by decide) (va_runV (As := []) (rest := [.int (nI (r - (j + 1))), .ref ho]) ⟨hx, hb, hml, hown, hts⟩ (c_diagonal l D cJ ht hc hf hp ho r C F3 P4 O1 (by first | assumption | omega) H.size) (cwV 0 hts (gV tw_114 tw_116 tws_4 tw_2 tw_117) rfl rfl rfl ⟨rfl, hd_T_diagonal⟩ ⟨Nat.le_of_ble_eq_true rfl, Nat.le_of_ble_eq_true rfl⟩) (xPreV (C := R_T) (T := F_T) (N := 5) (q0 := 0) hN hK (hP.sub (ws' := [(ht, .inr (0, [.int (nI r), .ref hc, .ref hf, .ref hp, .ref ho])), (hc, LA cJ 16 C), (hf, LA cJ 16 F3), (hp, LA cJ 16 P4), (ho, LA cJ 5 O1)]) [0, 1, 2, 3, 4] rfl) (hD.sub (ws' := [(ht, .inr (0, [.int (nI r), .ref hc, .ref hf, .ref hp, .ref ho])), (hc, LA cJ 16 C), (hf, LA cJ 16 F3), (hp, LA cJ 16 P4), (ho, LA cJ 5 O1)]) [0, 1, 2, 3, 4] (by decide) rfl) rfl rfl) rfl rfl hl.1 rfl (lv_room (Nat.le_of_ble_eq_true rfl)) d_T_expand_100 ⟨Nat.le_of_ble_eq_true rfl, Nat.le_of_ble_eq_true rfl⟩) (fun r_7 u_8 H locs hw_9 hP hD hS => ?_)
                try dsimp only at hw_9
                have hP : va_P D vwC [(ht, .inr (0, [.int (nI r), .ref hc, .ref hf, .ref hp, .ref ho])), (hc, LA cJ 16 C), (hf, LA cJ 16 F3), (hp, LA cJ 16 P4), (ho, LA cJ 5 O1)] H := hP
                have hD : va_D A [(ht, .inr (0, [.int (nI r), .ref hc, .ref hf, .ref hp, .ref ho])), (hc, LA cJ 16 C), (hf, LA cJ 16 F3), (hp, LA cJ 16 P4), (ho, LA cJ 5 O1)] := hD
                subst hw_9
                refine xl_neg hx hb d_T_expand_103 ?_
                refine lv_iload_n hx hb d_T_expand_104 rfl (lv_at hl 1 rfl) ?_
                refine xn_i2l hx hb (by omega) d_T_expand_105 ?_
                refine xl_div hx hb (by rw [hdia]; exact hq j (by omega)) ⟨by omega, by omega⟩ (by omega) (by omega) d_T_expand_106 ?_
                refine xl_ast hx hb hK hP hD hS 4 0 rfl rfl (k := r - (j + 1)) (by omega) (by first | decide | omega) d_T_expand_107 (fun H locs hP hD hS => ?_)
                have hP : va_P D vwC [(ht, .inr (0, [.int (nI r), .ref hc, .ref hf, .ref hp, .ref ho])), (hc, LA cJ 16 C), (hf, LA cJ 16 F3), (hp, LA cJ 16 P4), (ho, LA cJ 5 (upZ O1 (r - (j + 1)) ((-(diaN P4 r)).tdiv ((j + 1 : Nat) : Int))))] H := hP
                have hD : va_D A [(ht, .inr (0, [.int (nI r), .ref hc, .ref hf, .ref hp, .ref ho])), (hc, LA cJ 16 C), (hf, LA cJ 16 F3), (hp, LA cJ 16 P4), (ho, LA cJ 5 (upZ O1 (r - (j + 1)) ((-(diaN P4 r)).tdiv ((j + 1 : Nat) : Int))))] := hD
                have hO4 : ∀ i, i ≤ j + 1 → (upZ O1 (r - (j + 1)) ((-(diaN P4 r)).tdiv ((j + 1 : Nat) : Int))) (r - i) = (flM C r i).2 := by
                  intro i hi
                  by_cases q : i = j + 1
                  · rw [q, upZ_at, hdia]; rfl
                  · rw [upZ_ne (k := r - (j + 1)) (j := r - i) _ _ (by omega)]; exact hO1 i (by omega)
                refine lv_iinc (v := nI ((j + 1) + 1)) (lv' := [(1, .int (nI ((j + 1) + 1))), (0, .ref ht), (2, .int (nI i))]) hx hb d_T_expand_108 hl (k := 1) rfl (nI_add _ _) (by decide) rfl (fun ls hl => ?_)
                refine lv_goto (tgt := 20) hx hb d_T_expand_111 (by decide) ?_
                exact ih_20 (j + 1) F3 P4 (upZ O1 (r - (j + 1)) ((-(diaN P4 r)).tdiv ((j + 1 : Nat) : Int))) H locs ls (by omega) (fun a b ha hb => hP4 a b ha hb) (fun i hi => hO4 i hi) (fun _ a b ha hb => hF4 a b ha hb) (by omega) hP hD hS (lv_sub hl [1, 0] rfl)
              · skip
                refine lv_aload_n hx hb d_T_expand_53 rfl (lv_at hl 0 rfl) ?_
                refine va_get (D := D) (ci := 0) (v := .ref hf) (C := R_T) (T := F_T) (N := 5) hx hb hts iw_T hown hK hP 0 rfl rfl 2 (by decide) (hts _ tw_27) (fun _ h9 => h9) rfl d_T_expand_54 ?_
                refine lv_iload_n hx hb d_T_expand_57 rfl (lv_at hl 2 rfl) ?_
                refine lv_iload_n hx hb d_T_expand_58 rfl (lv_at hl 2 rfl) ?_
                refine xci (wc := []) (wr := [(ht, .inr (0, [.int (nI r), .ref hc, .ref hf, .ref hp, .ref ho])), (hc, LA cJ 16 C), (hf, LA cJ 16 F3), (hp, LA cJ 16 P1), (ho, LA cJ 5 O1)]) hP hD hS hA [] [0, 1, 2, 3, 4] rfl rfl (by decide) (by decide) (va_runSN (As := [.int (nI i), .int (nI i)]) (rest := [.ref hf]) ⟨hx, hb, hml, hown, hts⟩ (c_place l D cJ i i H.size) ⟨va_cnB 2 hts (gN tw_88) rfl rfl rfl hN.1 (hts _ tw_1) hd_K_place ⟨Nat.le_of_ble_eq_true rfl, Nat.le_of_ble_eq_true rfl⟩, (hts _ tw_87), trivial⟩ (xPreS hN hK (hP.sub (ws' := []) [] rfl) (hD.sub (ws' := []) [] (by decide) rfl)) rfl rfl hl.1 rfl (lv_room (Nat.le_of_ble_eq_true rfl)) d_T_expand_59 ⟨Nat.le_of_ble_eq_true rfl, Nat.le_of_ble_eq_true rfl⟩) (fun r_10 u_11 H locs hw_12 hP hD hS => ?_)
                try dsimp only at hw_12
                have hP : va_P D vwC [(ht, .inr (0, [.int (nI r), .ref hc, .ref hf, .ref hp, .ref ho])), (hc, LA cJ 16 C), (hf, LA cJ 16 F3), (hp, LA cJ 16 P1), (ho, LA cJ 5 O1)] H := hP
                have hD : va_D A [(ht, .inr (0, [.int (nI r), .ref hc, .ref hf, .ref hp, .ref ho])), (hc, LA cJ 16 C), (hf, LA cJ 16 F3), (hp, LA cJ 16 P1), (ho, LA cJ 5 O1)] := hD
                subst hw_12
                refine lv_dup2_11 hx hb d_T_expand_62 rfl rfl ?_
                refine xl_ald hx hb hK hP 2 0 rfl rfl (k := 4 * i + i) (by omega) (by first | decide | omega) d_T_expand_63 ?_
                refine lv_aload_n hx hb d_T_expand_64 rfl (lv_at hl 0 rfl) ?_
                refine va_get (D := D) (ci := 0) (v := .ref ho) (C := R_T) (T := F_T) (N := 5) hx hb hts iw_T hown hK hP 0 rfl rfl 4 (by decide) (hts _ tw_29) (fun _ h9 => h9) rfl d_T_expand_65 ?_
                refine lv_aload_n hx hb d_T_expand_68 rfl (lv_at hl 0 rfl) ?_
                refine va_get (D := D) (ci := 0) (v := .int (nI r)) (C := R_T) (T := F_T) (N := 5) hx hb hts iw_T hown hK hP 0 rfl rfl 0 (by decide) (hts _ tw_25) (fun _ h9 => h9) rfl d_T_expand_69 ?_
                refine lv_iload_n hx hb d_T_expand_72 rfl (lv_at hl 1 rfl) ?_
                refine xn_sub hx hb (by omega) d_T_expand_73 ?_
                refine lv_iconst (v := nI 1) hx hb d_T_expand_74 (by decide) ?_
                refine xn_add hx hb d_T_expand_75 ?_
                refine xl_ald hx hb hK hP 4 0 rfl rfl (k := (r - (j + 1)) + 1) (by omega) (by first | decide | omega) d_T_expand_76 ?_
                refine xl_add hx hb d_T_expand_77 ?_
                refine xl_ast hx hb hK hP hD hS 2 0 rfl rfl (k := 4 * i + i) (by omega) (by first | decide | omega) d_T_expand_78 (fun H locs hP hD hS => ?_)
                have hP : va_P D vwC [(ht, .inr (0, [.int (nI r), .ref hc, .ref hf, .ref hp, .ref ho])), (hc, LA cJ 16 C), (hf, LA cJ 16 (upZ F3 (4 * i + i) ((F3 (4 * i + i)) + (O1 ((r - (j + 1)) + 1))))), (hp, LA cJ 16 P1), (ho, LA cJ 5 O1)] H := hP
                have hD : va_D A [(ht, .inr (0, [.int (nI r), .ref hc, .ref hf, .ref hp, .ref ho])), (hc, LA cJ 16 C), (hf, LA cJ 16 (upZ F3 (4 * i + i) ((F3 (4 * i + i)) + (O1 ((r - (j + 1)) + 1))))), (hp, LA cJ 16 P1), (ho, LA cJ 5 O1)] := hD
                have hF3s : ∀ a b, a < r → b < r → (upZ F3 (4 * i + i) ((F3 (4 * i + i)) + (O1 ((r - (j + 1)) + 1)))) (4 * a + b) = P1 (4 * a + b) + (if a = b ∧ a < i + 1 then (flM C r j).2 else 0) := by
                  intro a b ha hb
                  by_cases q : a = i ∧ b = i
                  · obtain ⟨rfl, rfl⟩ := q
                    rw [upZ_at, if_pos (by omega), hF3 _ _ ha hb, if_neg (by omega), Int.add_zero, ← hO1 j (Nat.le_refl _), show r - (j + 1) + 1 = r - j from by omega]
                  · rw [upZ_ne (k := 4 * i + i) (j := 4 * a + b) _ _ (by omega), hF3 a b ha hb]
                    congr 1
                    by_cases q2 : a = b ∧ a < i
                    · rw [if_pos q2, if_pos ⟨q2.1, by omega⟩]
                    · rw [if_neg q2, if_neg (by omega)]
                refine lv_iinc (v := nI (i + 1)) (lv' := [(2, .int (nI (i + 1))), (0, .ref ht), (1, .int (nI (j + 1)))]) hx hb d_T_expand_79 hl (k := 2) rfl (nI_add _ _) (by decide) rfl (fun ls hl => ?_)
                refine lv_goto (tgt := 45) hx hb d_T_expand_82 (by decide) ?_
                exact ih_45 (i + 1) (upZ F3 (4 * i + i) ((F3 (4 * i + i)) + (O1 ((r - (j + 1)) + 1)))) H locs ls (by omega) (fun a b ha hb => by exact hF3s a b ha hb) (by omega) hP hD hS (lv_sub hl [1, 2, 0] rfl)
          exact lp_45 ((r - 0) + 1) 0 (cpZ P1 F1 16) H locs ls (Nat.zero_le _) (fun a b ha hb => by rw [cpZ_lt _ _ (show 4 * a + b < 16 from by omega), if_neg (by omega), Int.add_zero]) (by omega) hP hD hS (lv_sub hl [1, 2, 0] rfl)
    exact lp_20 ((r - 0) + 1) 0 F P0 (upZ O r 1) H locs ls (Nat.zero_le _) (fun a b ha hb => hfill _ (by omega)) (fun i hi => by rw [show i = 0 from by omega]; exact upZ_at _ _ _) (fun h => absurd h (by decide)) (by omega) hP hD hS (lv_sub hl [1, 0] rfl)
  rw [hH, hlc] at key; exact key

def rm_c_load : Room := { frames := 3, cells := 0, slots := 0, locals := 82 }
set_option maxHeartbeats 4000000 in
set_option maxRecDepth 100000 in
/-- a part of the source, its polynomial, its adjugate -/
theorem c_load (l : Launch) (D : va_G) (cJ : ClassId) (ht : Nat) (hc : Nat) (hf : Nat) (hp : Nat) (ho : Nat) (hs : Nat) (f : Nat) (g : Nat) (r : Nat) (r0 : Int32) (C : Nat → Int) (F : Nat → Int) (P : Nat → Int) (O : Nat → Int) (S : Nat → Int) (hg : g + 1 = f + r) (hr1 : 1 ≤ r) (hg3 : g ≤ 3) (hq : ∀ C2 : Nat → Int, (∀ a b, a < r → b < r → C2 (4 * a + b) = S (4 * (f + a) + (f + b))) → ∀ k, k < r → lB (-(diaN (flM C2 r (k + 1)).1 r))) (sz : Nat) : xMv l y_T_load (Cond.code y_T_load b_T_load 6 none :: tW) rm_c_load [.ref ht, .ref hs, .int (nI f), .int (nI g)] D vwC [(cJ, .long)] sz [(ht, .inr (0, [.int r0, .ref hc, .ref hf, .ref hp, .ref ho])), (hc, LA cJ 16 C), (hf, LA cJ 16 F), (hp, LA cJ 16 P), (ho, LA cJ 5 O), (hs, LA cJ 16 S)] (fun (uo : (Nat → Int) × (Nat → Int) × (Nat → Int) × (Nat → Int)) => (∀ a b, a < r → b < r → uo.1 (4 * a + b) = S (4 * (f + a) + (f + b))) ∧ flOK uo.1 r uo.2.1 uo.2.2.2) (fun (uo : (Nat → Int) × (Nat → Int) × (Nat → Int) × (Nat → Int)) => [(ht, .inr (0, [.int (nI r), .ref hc, .ref hf, .ref hp, .ref ho])), (hc, LA cJ 16 uo.1), (hf, LA cJ 16 uo.2.1), (hp, LA cJ 16 uo.2.2.1), (ho, LA cJ 5 uo.2.2.2), (hs, LA cJ 16 S)]) 0 0 := by
  refine xov (cc := b_T_load) (maxL := 6) (by decide) rfl (Nat.le_of_ble_eq_true rfl) ?_
  intro p e s m args below meth c Q A hx hb hml hts hown hN hA hS hP hK hD hret ls hl
  have hl : lv_has ls 6 [(0, .ref ht), (1, .ref hs), (2, .int (nI f)), (3, .int (nI g))] := hl
  obtain ⟨H, hH⟩ : ∃ z, z = s.heap := ⟨_, rfl⟩
  obtain ⟨locs, hlc⟩ : ∃ z : List Loc, z = [] := ⟨_, rfl⟩
  rw [← hH] at hP
  have hS : va_S A s.heap H locs := by rw [hH, hlc]; exact hS
  have key : W p l e rm_c_load s m args below meth c H locs 0 0 Q (F0 m 0 ls []) := by
    refine lv_aload_n hx hb d_T_load_0 rfl (lv_at hl 0 rfl) ?_
    refine lv_iload_n hx hb d_T_load_1 rfl (lv_at hl 3 rfl) ?_
    refine lv_iload_n hx hb d_T_load_2 rfl (lv_at hl 2 rfl) ?_
    refine xn_sub hx hb (by omega) d_T_load_3 ?_
    refine lv_iconst (v := nI 1) hx hb d_T_load_4 (by decide) ?_
    refine xn_add hx hb d_T_load_5 ?_
    rw [show g - f + 1 = r from by omega]
    refine va_put (D := D) (ci := 0) (v := .int (nI r)) (ty := .int) (C := R_T) (T := F_T) (N := 5) hx hb hts iw_T ft_T ft_T_ok n_T hown hK hP hD hS 0 rfl rfl 0 (by decide) (hts _ tw_25) (fun _ h9 => h9) rfl (by decide +kernel) rfl rfl (Nat.le_of_ble_eq_true rfl) d_T_load_6 (fun H locs hP hD hS => ?_)
    have hP : va_P D vwC [(ht, .inr (0, [.int (nI r), .ref hc, .ref hf, .ref hp, .ref ho])), (hc, LA cJ 16 C), (hf, LA cJ 16 F), (hp, LA cJ 16 P), (ho, LA cJ 5 O), (hs, LA cJ 16 S)] H := hP
    have hD : va_D A [(ht, .inr (0, [.int (nI r), .ref hc, .ref hf, .ref hp, .ref ho])), (hc, LA cJ 16 C), (hf, LA cJ 16 F), (hp, LA cJ 16 P), (ho, LA cJ 5 O), (hs, LA cJ 16 S)] := hD
    refine lv_iconst (v := nI 0) hx hb d_T_load_9 (by decide) ?_
    refine lv_istore (lv' := [(4, .int (nI 0)), (0, .ref ht), (1, .ref hs), (2, .int (nI f)), (3, .int (nI g))]) hx hb d_T_load_10 hl (by decide) rfl (fun ls hl => ?_)
    have lp_12 : ∀ (n_12 : Nat) (i : Nat) (C1 : Nat → Int) (H : Heap) (locs : List Loc) (ls : Array Slot), (i ≤ r) → (∀ a b, a < i → b < r → C1 (4 * a + b) = S (4 * (f + a) + (f + b))) → (r - i) < n_12 → va_P D vwC [(ht, .inr (0, [.int (nI r), .ref hc, .ref hf, .ref hp, .ref ho])), (hc, LA cJ 16 C1), (hf, LA cJ 16 F), (hp, LA cJ 16 P), (ho, LA cJ 5 O), (hs, LA cJ 16 S)] H → va_D A [(ht, .inr (0, [.int (nI r), .ref hc, .ref hf, .ref hp, .ref ho])), (hc, LA cJ 16 C1), (hf, LA cJ 16 F), (hp, LA cJ 16 P), (ho, LA cJ 5 O), (hs, LA cJ 16 S)] → va_S A s.heap H locs → lv_has ls 6 [(0, .ref ht), (1, .ref hs), (2, .int (nI f)), (3, .int (nI g)), (4, .int (nI i))] → W p l e rm_c_load s m args below meth c H locs 0 0 Q (F0 m 12 ls []) := by
      intro n_12
      induction n_12 with
      | zero => intro i C1 H locs ls hi h1 hn_12; exact absurd hn_12 (Nat.not_lt_zero _)
      | succ n_12 ih_12 =>
        intro i C1 H locs ls hi h1 hn_12 hP hD hS hl
        refine lv_iload hx hb d_T_load_12 (lv_at hl 4 rfl) ?_
        refine lv_aload_n hx hb d_T_load_14 rfl (lv_at hl 0 rfl) ?_
        refine va_get (D := D) (ci := 0) (v := .int (nI r)) (C := R_T) (T := F_T) (N := 5) hx hb hts iw_T hown hK hP 0 rfl rfl 0 (by decide) (hts _ tw_25) (fun _ h9 => h9) rfl d_T_load_15 ?_
        refine xn_ge (tgt := 70) hx hb (by omega) (by omega) d_T_load_18 (by decide) (fun c18_0 => ?_) (fun c18_0 => ?_)
        · skip
          refine lv_aload_n hx hb d_T_load_70 rfl (lv_at hl 0 rfl) ?_
          refine xcv (wc := [(ht, .inr (0, [.int (nI r), .ref hc, .ref hf, .ref hp, .ref ho])), (hc, LA cJ 16 C1), (hf, LA cJ 16 F), (hp, LA cJ 16 P), (ho, LA cJ 5 O)]) (wr := [(hs, LA cJ 16 S)]) hP hD hS hA [0, 1, 2, 3, 4] [5] rfl rfl (by decide) (by decide) (va_runV (As := []) (rest := []) ⟨hx, hb, hml, hown, hts⟩ (c_expand l D cJ ht hc hf hp ho r C1 F P O (by first | assumption | omega) (by first | assumption | omega) (hq C1 (fun a b ha hb => h1 a b (by omega) hb)) H.size) (cwV 0 hts (gV tw_102 tw_104 tws_2 tw_2 tw_105) rfl rfl rfl ⟨rfl, hd_T_expand⟩ ⟨Nat.le_of_ble_eq_true rfl, Nat.le_of_ble_eq_true rfl⟩) (xPreV (C := R_T) (T := F_T) (N := 5) (q0 := 0) hN hK (hP.sub (ws' := [(ht, .inr (0, [.int (nI r), .ref hc, .ref hf, .ref hp, .ref ho])), (hc, LA cJ 16 C1), (hf, LA cJ 16 F), (hp, LA cJ 16 P), (ho, LA cJ 5 O)]) [0, 1, 2, 3, 4] rfl) (hD.sub (ws' := [(ht, .inr (0, [.int (nI r), .ref hc, .ref hf, .ref hp, .ref ho])), (hc, LA cJ 16 C1), (hf, LA cJ 16 F), (hp, LA cJ 16 P), (ho, LA cJ 5 O)]) [0, 1, 2, 3, 4] (by decide) rfl) rfl rfl) rfl rfl hl.1 rfl (lv_room (Nat.le_of_ble_eq_true rfl)) d_T_load_71 ⟨Nat.le_of_ble_eq_true rfl, Nat.le_of_ble_eq_true rfl⟩) (fun u_3 H locs hexp hP hD hS => ?_)
          obtain ⟨F5, P5, O5⟩ := u_3
          try dsimp only at hexp
          have hP : va_P D vwC [(ht, .inr (0, [.int (nI r), .ref hc, .ref hf, .ref hp, .ref ho])), (hc, LA cJ 16 C1), (hf, LA cJ 16 F5), (hp, LA cJ 16 P5), (ho, LA cJ 5 O5), (hs, LA cJ 16 S)] H := hP.sub [1, 2, 3, 4, 5, 0] rfl
          have hD : va_D A [(ht, .inr (0, [.int (nI r), .ref hc, .ref hf, .ref hp, .ref ho])), (hc, LA cJ 16 C1), (hf, LA cJ 16 F5), (hp, LA cJ 16 P5), (ho, LA cJ 5 O5), (hs, LA cJ 16 S)] := hD.sub [1, 2, 3, 4, 5, 0] (by decide) rfl
          exact hret H locs _ ls (C1, F5, P5, O5) d_T_load_74 ⟨fun a b ha hb => h1 a b (by omega) hb, hexp⟩ hP hD hS
        · skip
          refine lv_iconst (v := nI 0) hx hb d_T_load_21 (by decide) ?_
          refine lv_istore (lv' := [(5, .int (nI 0)), (0, .ref ht), (1, .ref hs), (2, .int (nI f)), (3, .int (nI g)), (4, .int (nI i))]) hx hb d_T_load_22 hl (by decide) rfl (fun ls hl => ?_)
          have lp_24 : ∀ (n_24 : Nat) (j : Nat) (C3 : Nat → Int) (H : Heap) (locs : List Loc) (ls : Array Slot), (j ≤ r) → (∀ a b, (a < i ∧ b < r) ∨ (a = i ∧ b < j) → C3 (4 * a + b) = S (4 * (f + a) + (f + b))) → (r - j) < n_24 → va_P D vwC [(ht, .inr (0, [.int (nI r), .ref hc, .ref hf, .ref hp, .ref ho])), (hc, LA cJ 16 C3), (hf, LA cJ 16 F), (hp, LA cJ 16 P), (ho, LA cJ 5 O), (hs, LA cJ 16 S)] H → va_D A [(ht, .inr (0, [.int (nI r), .ref hc, .ref hf, .ref hp, .ref ho])), (hc, LA cJ 16 C3), (hf, LA cJ 16 F), (hp, LA cJ 16 P), (ho, LA cJ 5 O), (hs, LA cJ 16 S)] → va_S A s.heap H locs → lv_has ls 6 [(0, .ref ht), (1, .ref hs), (2, .int (nI f)), (3, .int (nI g)), (4, .int (nI i)), (5, .int (nI j))] → W p l e rm_c_load s m args below meth c H locs 0 0 Q (F0 m 24 ls []) := by
            intro n_24
            induction n_24 with
            | zero => intro j C3 H locs ls hj h2 hn_24; exact absurd hn_24 (Nat.not_lt_zero _)
            | succ n_24 ih_24 =>
              intro j C3 H locs ls hj h2 hn_24 hP hD hS hl
              refine lv_iload hx hb d_T_load_24 (lv_at hl 5 rfl) ?_
              refine lv_aload_n hx hb d_T_load_26 rfl (lv_at hl 0 rfl) ?_
              refine va_get (D := D) (ci := 0) (v := .int (nI r)) (C := R_T) (T := F_T) (N := 5) hx hb hts iw_T hown hK hP 0 rfl rfl 0 (by decide) (hts _ tw_25) (fun _ h9 => h9) rfl d_T_load_27 ?_
              refine xn_ge (tgt := 64) hx hb (by omega) (by omega) d_T_load_30 (by decide) (fun c30_3 => ?_) (fun c30_3 => ?_)
              · skip
                refine lv_iinc (v := nI (i + 1)) (lv' := [(4, .int (nI (i + 1))), (0, .ref ht), (1, .ref hs), (2, .int (nI f)), (3, .int (nI g)), (5, .int (nI j))]) hx hb d_T_load_64 hl (k := 4) rfl (nI_add _ _) (by decide) rfl (fun ls hl => ?_)
                refine lv_goto (tgt := 12) hx hb d_T_load_67 (by decide) ?_
                exact ih_12 (i + 1) C3 H locs ls (by omega) (fun a b ha hb => h2 a b (by omega)) (by omega) hP hD hS (lv_sub hl [1, 2, 3, 4, 0] rfl)
              · skip
                refine lv_aload_n hx hb d_T_load_33 rfl (lv_at hl 0 rfl) ?_
                refine va_get (D := D) (ci := 0) (v := .ref hc) (C := R_T) (T := F_T) (N := 5) hx hb hts iw_T hown hK hP 0 rfl rfl 1 (by decide) (hts _ tw_26) (fun _ h9 => h9) rfl d_T_load_34 ?_
                refine lv_iload hx hb d_T_load_37 (lv_at hl 4 rfl) ?_
                refine lv_iload hx hb d_T_load_39 (lv_at hl 5 rfl) ?_
                refine xci (wc := []) (wr := [(ht, .inr (0, [.int (nI r), .ref hc, .ref hf, .ref hp, .ref ho])), (hc, LA cJ 16 C3), (hf, LA cJ 16 F), (hp, LA cJ 16 P), (ho, LA cJ 5 O), (hs, LA cJ 16 S)]) hP hD hS hA [] [0, 1, 2, 3, 4, 5] rfl rfl (by decide) (by decide) (va_runSN (As := [.int (nI i), .int (nI j)]) (rest := [.ref hc]) ⟨hx, hb, hml, hown, hts⟩ (c_place l D cJ i j H.size) ⟨va_cnB 2 hts (gN tw_88) rfl rfl rfl hN.1 (hts _ tw_1) hd_K_place ⟨Nat.le_of_ble_eq_true rfl, Nat.le_of_ble_eq_true rfl⟩, (hts _ tw_87), trivial⟩ (xPreS hN hK (hP.sub (ws' := []) [] rfl) (hD.sub (ws' := []) [] (by decide) rfl)) rfl rfl hl.1 rfl (lv_room (Nat.le_of_ble_eq_true rfl)) d_T_load_41 ⟨Nat.le_of_ble_eq_true rfl, Nat.le_of_ble_eq_true rfl⟩) (fun r_5 u_6 H locs hw_7 hP hD hS => ?_)
                try dsimp only at hw_7
                have hP : va_P D vwC [(ht, .inr (0, [.int (nI r), .ref hc, .ref hf, .ref hp, .ref ho])), (hc, LA cJ 16 C3), (hf, LA cJ 16 F), (hp, LA cJ 16 P), (ho, LA cJ 5 O), (hs, LA cJ 16 S)] H := hP
                have hD : va_D A [(ht, .inr (0, [.int (nI r), .ref hc, .ref hf, .ref hp, .ref ho])), (hc, LA cJ 16 C3), (hf, LA cJ 16 F), (hp, LA cJ 16 P), (ho, LA cJ 5 O), (hs, LA cJ 16 S)] := hD
                subst hw_7
                refine lv_aload_n hx hb d_T_load_44 rfl (lv_at hl 1 rfl) ?_
                refine lv_iload_n hx hb d_T_load_45 rfl (lv_at hl 2 rfl) ?_
                refine lv_iload hx hb d_T_load_46 (lv_at hl 4 rfl) ?_
                refine xn_add hx hb d_T_load_48 ?_
                refine lv_iload_n hx hb d_T_load_49 rfl (lv_at hl 2 rfl) ?_
                refine lv_iload hx hb d_T_load_50 (lv_at hl 5 rfl) ?_
                refine xn_add hx hb d_T_load_52 ?_
                refine xci (wc := []) (wr := [(ht, .inr (0, [.int (nI r), .ref hc, .ref hf, .ref hp, .ref ho])), (hc, LA cJ 16 C3), (hf, LA cJ 16 F), (hp, LA cJ 16 P), (ho, LA cJ 5 O), (hs, LA cJ 16 S)]) hP hD hS hA [] [0, 1, 2, 3, 4, 5] rfl rfl (by decide) (by decide) (va_runSN (As := [.int (nI (f + i)), .int (nI (f + j))]) (rest := [.ref hs, .int (nI (4 * i + j)), .ref hc]) ⟨hx, hb, hml, hown, hts⟩ (c_place l D cJ (f + i) (f + j) H.size) ⟨va_cnB 2 hts (gN tw_88) rfl rfl rfl hN.1 (hts _ tw_1) hd_K_place ⟨Nat.le_of_ble_eq_true rfl, Nat.le_of_ble_eq_true rfl⟩, (hts _ tw_87), trivial⟩ (xPreS hN hK (hP.sub (ws' := []) [] rfl) (hD.sub (ws' := []) [] (by decide) rfl)) rfl rfl hl.1 rfl (lv_room (Nat.le_of_ble_eq_true rfl)) d_T_load_53 ⟨Nat.le_of_ble_eq_true rfl, Nat.le_of_ble_eq_true rfl⟩) (fun r_8 u_9 H locs hw_10 hP hD hS => ?_)
                try dsimp only at hw_10
                have hP : va_P D vwC [(ht, .inr (0, [.int (nI r), .ref hc, .ref hf, .ref hp, .ref ho])), (hc, LA cJ 16 C3), (hf, LA cJ 16 F), (hp, LA cJ 16 P), (ho, LA cJ 5 O), (hs, LA cJ 16 S)] H := hP
                have hD : va_D A [(ht, .inr (0, [.int (nI r), .ref hc, .ref hf, .ref hp, .ref ho])), (hc, LA cJ 16 C3), (hf, LA cJ 16 F), (hp, LA cJ 16 P), (ho, LA cJ 5 O), (hs, LA cJ 16 S)] := hD
                subst hw_10
                refine xl_ald hx hb hK hP 5 0 rfl rfl (k := 4 * (f + i) + (f + j)) (by omega) (by first | decide | omega) d_T_load_56 ?_
                refine xl_ast hx hb hK hP hD hS 1 0 rfl rfl (k := 4 * i + j) (by omega) (by first | decide | omega) d_T_load_57 (fun H locs hP hD hS => ?_)
                have hP : va_P D vwC [(ht, .inr (0, [.int (nI r), .ref hc, .ref hf, .ref hp, .ref ho])), (hc, LA cJ 16 (upZ C3 (4 * i + j) (S (4 * (f + i) + (f + j))))), (hf, LA cJ 16 F), (hp, LA cJ 16 P), (ho, LA cJ 5 O), (hs, LA cJ 16 S)] H := hP
                have hD : va_D A [(ht, .inr (0, [.int (nI r), .ref hc, .ref hf, .ref hp, .ref ho])), (hc, LA cJ 16 (upZ C3 (4 * i + j) (S (4 * (f + i) + (f + j))))), (hf, LA cJ 16 F), (hp, LA cJ 16 P), (ho, LA cJ 5 O), (hs, LA cJ 16 S)] := hD
                refine lv_iinc (v := nI (j + 1)) (lv' := [(5, .int (nI (j + 1))), (0, .ref ht), (1, .ref hs), (2, .int (nI f)), (3, .int (nI g)), (4, .int (nI i))]) hx hb d_T_load_58 hl (k := 5) rfl (nI_add _ _) (by decide) rfl (fun ls hl => ?_)
                refine lv_goto (tgt := 24) hx hb d_T_load_61 (by decide) ?_
                exact ih_24 (j + 1) (upZ C3 (4 * i + j) (S (4 * (f + i) + (f + j)))) H locs ls (by omega) (fun a b h => by by_cases q : a = i ∧ b = j; obtain ⟨rfl, rfl⟩ := q; rw [upZ_at]; rw [upZ_ne (k := 4 * i + j) (j := 4 * a + b) _ _ (by omega)]; exact h2 a b (by omega)) (by omega) hP hD hS (lv_sub hl [1, 2, 3, 4, 5, 0] rfl)
          exact lp_24 ((r - 0) + 1) 0 C1 H locs ls (Nat.zero_le _) (fun a b h => h1 a b (by omega) (by omega)) (by omega) hP hD hS (lv_sub hl [1, 2, 3, 4, 5, 0] rfl)
    exact lp_12 ((r - 0) + 1) 0 C H locs ls (Nat.zero_le _) (fun a b h => absurd h (Nat.not_lt_zero _)) (by omega) hP hD hS (lv_sub hl [1, 2, 3, 4, 0] rfl)
  rw [hH, hlc] at key; exact key

def rm_c_adjugate : Room := { frames := 1, cells := 0, slots := 0, locals := 21 }
set_option maxHeartbeats 4000000 in
set_option maxRecDepth 100000 in
/-- the factor but for its sign -/
theorem c_adjugate (l : Launch) (D : va_G) (cJ : ClassId) (ht : Nat) (hc : Nat) (hf : Nat) (hp : Nat) (ho : Nat) (r : Nat) (C : Nat → Int) (F : Nat → Int) (P : Nat → Int) (O : Nat → Int) (i : Nat) (j : Nat) (hr : r ≤ 4) (hi : i < 4) (hj : j < 4) (sz : Nat) : xMl l y_T_adjugate (Cond.code y_T_adjugate b_T_adjugate 3 (some .long) :: tW) rm_c_adjugate [.ref ht, .int (nI i), .int (nI j)] D vwC [(cJ, .long)] sz [(ht, .inr (0, [.int (nI r), .ref hc, .ref hf, .ref hp, .ref ho])), (hc, LA cJ 16 C), (hf, LA cJ 16 F), (hp, LA cJ 16 P), (ho, LA cJ 5 O)] (fun (rv : Int64) (_ : Unit) => rv = lI (if r % 2 = 0 then -(F (4 * i + j)) else F (4 * i + j))) (fun (_ : Unit) => [(ht, .inr (0, [.int (nI r), .ref hc, .ref hf, .ref hp, .ref ho])), (hc, LA cJ 16 C), (hf, LA cJ 16 F), (hp, LA cJ 16 P), (ho, LA cJ 5 O)]) 0 0 := by
  refine xol (cc := b_T_adjugate) (maxL := 3) (by decide) rfl (Nat.le_of_ble_eq_true rfl) ?_
  intro p e s m args below meth c Q A hx hb hml hts hown hN hA hS hP hK hD hret ls hl
  have hl : lv_has ls 3 [(0, .ref ht), (1, .int (nI i)), (2, .int (nI j))] := hl
  obtain ⟨H, hH⟩ : ∃ z, z = s.heap := ⟨_, rfl⟩
  obtain ⟨locs, hlc⟩ : ∃ z : List Loc, z = [] := ⟨_, rfl⟩
  rw [← hH] at hP
  have hS : va_S A s.heap H locs := by rw [hH, hlc]; exact hS
  have key : W p l e rm_c_adjugate s m args below meth c H locs 0 0 Q (F0 m 0 ls []) := by
    refine lv_aload_n hx hb d_T_adjugate_0 rfl (lv_at hl 0 rfl) ?_
    refine va_get (D := D) (ci := 0) (v := .int (nI r)) (C := R_T) (T := F_T) (N := 5) hx hb hts iw_T hown hK hP 0 rfl rfl 0 (by decide) (hts _ tw_25) (fun _ h9 => h9) rfl d_T_adjugate_1 ?_
    refine lv_iconst (v := nI 2) hx hb d_T_adjugate_4 (by decide) ?_
    refine xn_rem hx hb (by omega) (by omega) (by omega) d_T_adjugate_5 ?_
    refine xz_ne (tgt := 23) (X := (r % 2 : Nat)) hx hb (nI_toInt (by omega)) d_T_adjugate_6 (by decide) (fun c6_0 => ?_) (fun c6_0 => ?_)
    · skip
      refine lv_aload_n hx hb d_T_adjugate_23 rfl (lv_at hl 0 rfl) ?_
      refine va_get (D := D) (ci := 0) (v := .ref hf) (C := R_T) (T := F_T) (N := 5) hx hb hts iw_T hown hK hP 0 rfl rfl 2 (by decide) (hts _ tw_27) (fun _ h9 => h9) rfl d_T_adjugate_24 ?_
      refine lv_iload_n hx hb d_T_adjugate_27 rfl (lv_at hl 1 rfl) ?_
      refine lv_iload_n hx hb d_T_adjugate_28 rfl (lv_at hl 2 rfl) ?_
      refine xci (wc := []) (wr := [(ht, .inr (0, [.int (nI r), .ref hc, .ref hf, .ref hp, .ref ho])), (hc, LA cJ 16 C), (hf, LA cJ 16 F), (hp, LA cJ 16 P), (ho, LA cJ 5 O)]) hP hD hS hA [] [0, 1, 2, 3, 4] rfl rfl (by decide) (by decide) (va_runSN (As := [.int (nI i), .int (nI j)]) (rest := [.ref hf]) ⟨hx, hb, hml, hown, hts⟩ (c_place l D cJ i j H.size) ⟨va_cnB 2 hts (gN tw_88) rfl rfl rfl hN.1 (hts _ tw_1) hd_K_place ⟨Nat.le_of_ble_eq_true rfl, Nat.le_of_ble_eq_true rfl⟩, (hts _ tw_87), trivial⟩ (xPreS hN hK (hP.sub (ws' := []) [] rfl) (hD.sub (ws' := []) [] (by decide) rfl)) rfl rfl hl.1 rfl (lv_room (Nat.le_of_ble_eq_true rfl)) d_T_adjugate_29 ⟨Nat.le_of_ble_eq_true rfl, Nat.le_of_ble_eq_true rfl⟩) (fun r_2 u_3 H locs hw_4 hP hD hS => ?_)
      try dsimp only at hw_4
      have hP : va_P D vwC [(ht, .inr (0, [.int (nI r), .ref hc, .ref hf, .ref hp, .ref ho])), (hc, LA cJ 16 C), (hf, LA cJ 16 F), (hp, LA cJ 16 P), (ho, LA cJ 5 O)] H := hP
      have hD : va_D A [(ht, .inr (0, [.int (nI r), .ref hc, .ref hf, .ref hp, .ref ho])), (hc, LA cJ 16 C), (hf, LA cJ 16 F), (hp, LA cJ 16 P), (ho, LA cJ 5 O)] := hD
      subst hw_4
      refine xl_ald hx hb hK hP 2 0 rfl rfl (k := 4 * i + j) (by omega) (by first | decide | omega) d_T_adjugate_32 ?_
      exact hret H locs _ ls (lI (F (4 * i + j))) () d_T_adjugate_33 (by first | rw [if_pos (show r % 2 = 0 from by omega)] | rw [if_neg (show ¬ r % 2 = 0 from by omega)]) hP hD hS
    · skip
      refine lv_aload_n hx hb d_T_adjugate_9 rfl (lv_at hl 0 rfl) ?_
      refine va_get (D := D) (ci := 0) (v := .ref hf) (C := R_T) (T := F_T) (N := 5) hx hb hts iw_T hown hK hP 0 rfl rfl 2 (by decide) (hts _ tw_27) (fun _ h9 => h9) rfl d_T_adjugate_10 ?_
      refine lv_iload_n hx hb d_T_adjugate_13 rfl (lv_at hl 1 rfl) ?_
      refine lv_iload_n hx hb d_T_adjugate_14 rfl (lv_at hl 2 rfl) ?_
      refine xci (wc := []) (wr := [(ht, .inr (0, [.int (nI r), .ref hc, .ref hf, .ref hp, .ref ho])), (hc, LA cJ 16 C), (hf, LA cJ 16 F), (hp, LA cJ 16 P), (ho, LA cJ 5 O)]) hP hD hS hA [] [0, 1, 2, 3, 4] rfl rfl (by decide) (by decide) (va_runSN (As := [.int (nI i), .int (nI j)]) (rest := [.ref hf]) ⟨hx, hb, hml, hown, hts⟩ (c_place l D cJ i j H.size) ⟨va_cnB 2 hts (gN tw_88) rfl rfl rfl hN.1 (hts _ tw_1) hd_K_place ⟨Nat.le_of_ble_eq_true rfl, Nat.le_of_ble_eq_true rfl⟩, (hts _ tw_87), trivial⟩ (xPreS hN hK (hP.sub (ws' := []) [] rfl) (hD.sub (ws' := []) [] (by decide) rfl)) rfl rfl hl.1 rfl (lv_room (Nat.le_of_ble_eq_true rfl)) d_T_adjugate_15 ⟨Nat.le_of_ble_eq_true rfl, Nat.le_of_ble_eq_true rfl⟩) (fun r_5 u_6 H locs hw_7 hP hD hS => ?_)
      try dsimp only at hw_7
      have hP : va_P D vwC [(ht, .inr (0, [.int (nI r), .ref hc, .ref hf, .ref hp, .ref ho])), (hc, LA cJ 16 C), (hf, LA cJ 16 F), (hp, LA cJ 16 P), (ho, LA cJ 5 O)] H := hP
      have hD : va_D A [(ht, .inr (0, [.int (nI r), .ref hc, .ref hf, .ref hp, .ref ho])), (hc, LA cJ 16 C), (hf, LA cJ 16 F), (hp, LA cJ 16 P), (ho, LA cJ 5 O)] := hD
      subst hw_7
      refine xl_ald hx hb hK hP 2 0 rfl rfl (k := 4 * i + j) (by omega) (by first | decide | omega) d_T_adjugate_18 ?_
      refine xl_neg hx hb d_T_adjugate_19 ?_
      refine lv_goto (tgt := 33) hx hb d_T_adjugate_20 (by decide) ?_
      exact hret H locs _ ls (lI (-(F (4 * i + j)))) () d_T_adjugate_33 (by first | rw [if_pos (show r % 2 = 0 from by omega)] | rw [if_neg (show ¬ r % 2 = 0 from by omega)]) hP hD hS
  rw [hH, hlc] at key; exact key

def rm_c_product : Room := { frames := 0, cells := 0, slots := 0, locals := 0 }
set_option maxHeartbeats 4000000 in
set_option maxRecDepth 100000 in
/-- the determinant -/
theorem c_product (l : Launch) (D : va_G) (cJ : ClassId) (ht : Nat) (hc : Nat) (hf : Nat) (hp : Nat) (ho : Nat) (r : Nat) (C : Nat → Int) (F : Nat → Int) (P : Nat → Int) (O : Nat → Int) (hr : r ≤ 4) (sz : Nat) : xMl l y_T_productOfValues (Cond.code y_T_productOfValues b_T_productOfValues 1 (some .long) :: tW) rm_c_product [.ref ht] D vwC [(cJ, .long)] sz [(ht, .inr (0, [.int (nI r), .ref hc, .ref hf, .ref hp, .ref ho])), (hc, LA cJ 16 C), (hf, LA cJ 16 F), (hp, LA cJ 16 P), (ho, LA cJ 5 O)] (fun (rv : Int64) (_ : Unit) => rv = lI (if r % 2 = 0 then O 0 else -(O 0))) (fun (_ : Unit) => [(ht, .inr (0, [.int (nI r), .ref hc, .ref hf, .ref hp, .ref ho])), (hc, LA cJ 16 C), (hf, LA cJ 16 F), (hp, LA cJ 16 P), (ho, LA cJ 5 O)]) 0 0 := by
  refine xol (cc := b_T_productOfValues) (maxL := 1) (by decide) rfl (Nat.le_of_ble_eq_true rfl) ?_
  intro p e s m args below meth c Q A hx hb hml hts hown hN hA hS hP hK hD hret ls hl
  have hl : lv_has ls 1 [(0, .ref ht)] := hl
  obtain ⟨H, hH⟩ : ∃ z, z = s.heap := ⟨_, rfl⟩
  obtain ⟨locs, hlc⟩ : ∃ z : List Loc, z = [] := ⟨_, rfl⟩
  rw [← hH] at hP
  have hS : va_S A s.heap H locs := by rw [hH, hlc]; exact hS
  have key : W p l e rm_c_product s m args below meth c H locs 0 0 Q (F0 m 0 ls []) := by
    refine lv_aload_n hx hb d_T_productOfValues_0 rfl (lv_at hl 0 rfl) ?_
    refine va_get (D := D) (ci := 0) (v := .int (nI r)) (C := R_T) (T := F_T) (N := 5) hx hb hts iw_T hown hK hP 0 rfl rfl 0 (by decide) (hts _ tw_25) (fun _ h9 => h9) rfl d_T_productOfValues_1 ?_
    refine lv_iconst (v := nI 2) hx hb d_T_productOfValues_4 (by decide) ?_
    refine xn_rem hx hb (by omega) (by omega) (by omega) d_T_productOfValues_5 ?_
    refine xz_ne (tgt := 18) (X := (r % 2 : Nat)) hx hb (nI_toInt (by omega)) d_T_productOfValues_6 (by decide) (fun c6_0 => ?_) (fun c6_0 => ?_)
    · skip
      refine lv_aload_n hx hb d_T_productOfValues_18 rfl (lv_at hl 0 rfl) ?_
      refine va_get (D := D) (ci := 0) (v := .ref ho) (C := R_T) (T := F_T) (N := 5) hx hb hts iw_T hown hK hP 0 rfl rfl 4 (by decide) (hts _ tw_29) (fun _ h9 => h9) rfl d_T_productOfValues_19 ?_
      refine lv_iconst (v := nI 0) hx hb d_T_productOfValues_22 (by decide) ?_
      refine xl_ald hx hb hK hP 4 0 rfl rfl (k := 0) (by omega) (by first | decide | omega) d_T_productOfValues_23 ?_
      refine xl_neg hx hb d_T_productOfValues_24 ?_
      exact hret H locs _ ls (lI (-(O 0))) () d_T_productOfValues_25 (by first | rw [if_pos (show r % 2 = 0 from by omega)] | rw [if_neg (show ¬ r % 2 = 0 from by omega)]) hP hD hS
    · skip
      refine lv_aload_n hx hb d_T_productOfValues_9 rfl (lv_at hl 0 rfl) ?_
      refine va_get (D := D) (ci := 0) (v := .ref ho) (C := R_T) (T := F_T) (N := 5) hx hb hts iw_T hown hK hP 0 rfl rfl 4 (by decide) (hts _ tw_29) (fun _ h9 => h9) rfl d_T_productOfValues_10 ?_
      refine lv_iconst (v := nI 0) hx hb d_T_productOfValues_13 (by decide) ?_
      refine xl_ald hx hb hK hP 4 0 rfl rfl (k := 0) (by omega) (by first | decide | omega) d_T_productOfValues_14 ?_
      refine lv_goto (tgt := 25) hx hb d_T_productOfValues_15 (by decide) ?_
      exact hret H locs _ ls (lI (O 0)) () d_T_productOfValues_25 (by first | rw [if_pos (show r % 2 = 0 from by omega)] | rw [if_neg (show ¬ r % 2 = 0 from by omega)]) hP hD hS
  rw [hH, hlc] at key; exact key

def rm_c_sum : Room := { frames := 0, cells := 0, slots := 0, locals := 0 }
set_option maxHeartbeats 4000000 in
set_option maxRecDepth 100000 in
/-- the sum -/
theorem c_sum (l : Launch) (D : va_G) (cJ : ClassId) (ht : Nat) (hc : Nat) (hf : Nat) (hp : Nat) (ho : Nat) (r : Nat) (C : Nat → Int) (F : Nat → Int) (P : Nat → Int) (O : Nat → Int) (hr1 : 1 ≤ r) (hr : r ≤ 4) (sz : Nat) : xMl l y_T_sumOfValues (Cond.code y_T_sumOfValues b_T_sumOfValues 1 (some .long) :: tW) rm_c_sum [.ref ht] D vwC [(cJ, .long)] sz [(ht, .inr (0, [.int (nI r), .ref hc, .ref hf, .ref hp, .ref ho])), (hc, LA cJ 16 C), (hf, LA cJ 16 F), (hp, LA cJ 16 P), (ho, LA cJ 5 O)] (fun (rv : Int64) (_ : Unit) => rv = lI (-(O (r - 1)))) (fun (_ : Unit) => [(ht, .inr (0, [.int (nI r), .ref hc, .ref hf, .ref hp, .ref ho])), (hc, LA cJ 16 C), (hf, LA cJ 16 F), (hp, LA cJ 16 P), (ho, LA cJ 5 O)]) 0 0 := by
  refine xol (cc := b_T_sumOfValues) (maxL := 1) (by decide) rfl (Nat.le_of_ble_eq_true rfl) ?_
  intro p e s m args below meth c Q A hx hb hml hts hown hN hA hS hP hK hD hret ls hl
  have hl : lv_has ls 1 [(0, .ref ht)] := hl
  obtain ⟨H, hH⟩ : ∃ z, z = s.heap := ⟨_, rfl⟩
  obtain ⟨locs, hlc⟩ : ∃ z : List Loc, z = [] := ⟨_, rfl⟩
  rw [← hH] at hP
  have hS : va_S A s.heap H locs := by rw [hH, hlc]; exact hS
  have key : W p l e rm_c_sum s m args below meth c H locs 0 0 Q (F0 m 0 ls []) := by
    refine lv_aload_n hx hb d_T_sumOfValues_0 rfl (lv_at hl 0 rfl) ?_
    refine va_get (D := D) (ci := 0) (v := .int (nI r)) (C := R_T) (T := F_T) (N := 5) hx hb hts iw_T hown hK hP 0 rfl rfl 0 (by decide) (hts _ tw_25) (fun _ h9 => h9) rfl d_T_sumOfValues_1 ?_
    refine lv_iconst (v := nI 1) hx hb d_T_sumOfValues_4 (by decide) ?_
    refine xn_ge (tgt := 12) hx hb (by omega) (by omega) d_T_sumOfValues_5 (by decide) (fun c5_0 => ?_) (fun c5_0 => absurd c5_0 (by omega))
    refine lv_aload_n hx hb d_T_sumOfValues_12 rfl (lv_at hl 0 rfl) ?_
    refine va_get (D := D) (ci := 0) (v := .ref ho) (C := R_T) (T := F_T) (N := 5) hx hb hts iw_T hown hK hP 0 rfl rfl 4 (by decide) (hts _ tw_29) (fun _ h9 => h9) rfl d_T_sumOfValues_13 ?_
    refine lv_aload_n hx hb d_T_sumOfValues_16 rfl (lv_at hl 0 rfl) ?_
    refine va_get (D := D) (ci := 0) (v := .int (nI r)) (C := R_T) (T := F_T) (N := 5) hx hb hts iw_T hown hK hP 0 rfl rfl 0 (by decide) (hts _ tw_25) (fun _ h9 => h9) rfl d_T_sumOfValues_17 ?_
    refine lv_iconst (v := nI 1) hx hb d_T_sumOfValues_20 (by decide) ?_
    refine xn_sub hx hb (by omega) d_T_sumOfValues_21 ?_
    refine xl_ald hx hb hK hP 4 0 rfl rfl (k := r - 1) (by omega) (by first | decide | omega) d_T_sumOfValues_22 ?_
    refine xl_neg hx hb d_T_sumOfValues_23 ?_
    exact hret H locs _ ls (lI (-(O (r - 1)))) () d_T_sumOfValues_24 rfl hP hD hS
  rw [hH, hlc] at key; exact key

def rm_c_pairs : Room := { frames := 0, cells := 0, slots := 0, locals := 0 }
set_option maxHeartbeats 4000000 in
set_option maxRecDepth 100000 in
/-- the sum over pairs -/
theorem c_pairs (l : Launch) (D : va_G) (cJ : ClassId) (ht : Nat) (hc : Nat) (hf : Nat) (hp : Nat) (ho : Nat) (r : Nat) (C : Nat → Int) (F : Nat → Int) (P : Nat → Int) (O : Nat → Int) (hr1 : 2 ≤ r) (hr : r ≤ 4) (sz : Nat) : xMl l y_T_sumOfPairs (Cond.code y_T_sumOfPairs b_T_sumOfPairs 1 (some .long) :: tW) rm_c_pairs [.ref ht] D vwC [(cJ, .long)] sz [(ht, .inr (0, [.int (nI r), .ref hc, .ref hf, .ref hp, .ref ho])), (hc, LA cJ 16 C), (hf, LA cJ 16 F), (hp, LA cJ 16 P), (ho, LA cJ 5 O)] (fun (rv : Int64) (_ : Unit) => rv = lI (O (r - 2))) (fun (_ : Unit) => [(ht, .inr (0, [.int (nI r), .ref hc, .ref hf, .ref hp, .ref ho])), (hc, LA cJ 16 C), (hf, LA cJ 16 F), (hp, LA cJ 16 P), (ho, LA cJ 5 O)]) 0 0 := by
  refine xol (cc := b_T_sumOfPairs) (maxL := 1) (by decide) rfl (Nat.le_of_ble_eq_true rfl) ?_
  intro p e s m args below meth c Q A hx hb hml hts hown hN hA hS hP hK hD hret ls hl
  have hl : lv_has ls 1 [(0, .ref ht)] := hl
  obtain ⟨H, hH⟩ : ∃ z, z = s.heap := ⟨_, rfl⟩
  obtain ⟨locs, hlc⟩ : ∃ z : List Loc, z = [] := ⟨_, rfl⟩
  rw [← hH] at hP
  have hS : va_S A s.heap H locs := by rw [hH, hlc]; exact hS
  have key : W p l e rm_c_pairs s m args below meth c H locs 0 0 Q (F0 m 0 ls []) := by
    refine lv_aload_n hx hb d_T_sumOfPairs_0 rfl (lv_at hl 0 rfl) ?_
    refine va_get (D := D) (ci := 0) (v := .int (nI r)) (C := R_T) (T := F_T) (N := 5) hx hb hts iw_T hown hK hP 0 rfl rfl 0 (by decide) (hts _ tw_25) (fun _ h9 => h9) rfl d_T_sumOfPairs_1 ?_
    refine lv_iconst (v := nI 2) hx hb d_T_sumOfPairs_4 (by decide) ?_
    refine xn_ge (tgt := 12) hx hb (by omega) (by omega) d_T_sumOfPairs_5 (by decide) (fun c5_0 => ?_) (fun c5_0 => absurd c5_0 (by omega))
    refine lv_aload_n hx hb d_T_sumOfPairs_12 rfl (lv_at hl 0 rfl) ?_
    refine va_get (D := D) (ci := 0) (v := .ref ho) (C := R_T) (T := F_T) (N := 5) hx hb hts iw_T hown hK hP 0 rfl rfl 4 (by decide) (hts _ tw_29) (fun _ h9 => h9) rfl d_T_sumOfPairs_13 ?_
    refine lv_aload_n hx hb d_T_sumOfPairs_16 rfl (lv_at hl 0 rfl) ?_
    refine va_get (D := D) (ci := 0) (v := .int (nI r)) (C := R_T) (T := F_T) (N := 5) hx hb hts iw_T hown hK hP 0 rfl rfl 0 (by decide) (hts _ tw_25) (fun _ h9 => h9) rfl d_T_sumOfPairs_17 ?_
    refine lv_iconst (v := nI 2) hx hb d_T_sumOfPairs_20 (by decide) ?_
    refine xn_sub hx hb (by omega) d_T_sumOfPairs_21 ?_
    refine xl_ald hx hb hK hP 4 0 rfl rfl (k := r - 2) (by omega) (by first | decide | omega) d_T_sumOfPairs_22 ?_
    exact hret H locs _ ls (lI (O (r - 2))) () d_T_sumOfPairs_23 rfl hP hD hS
  rw [hH, hlc] at key; exact key

def rm_c_rank : Room := { frames := 0, cells := 0, slots := 0, locals := 0 }
set_option maxHeartbeats 4000000 in
set_option maxRecDepth 100000 in
/-- rows less the zeros at the low end -/
theorem c_rank (l : Launch) (D : va_G) (cJ : ClassId) (ht : Nat) (hc : Nat) (hf : Nat) (hp : Nat) (ho : Nat) (r : Nat) (C : Nat → Int) (F : Nat → Int) (P : Nat → Int) (O : Nat → Int) (hr : r ≤ 4) (hO : ∀ k, k < r → lB (O k)) (sz : Nat) : xMi l y_T_rank (Cond.code y_T_rank b_T_rank 2 (some .int) :: tW) rm_c_rank [.ref ht] D vwC [(cJ, .long)] sz [(ht, .inr (0, [.int (nI r), .ref hc, .ref hf, .ref hp, .ref ho])), (hc, LA cJ 16 C), (hf, LA cJ 16 F), (hp, LA cJ 16 P), (ho, LA cJ 5 O)] (fun (rv : Int32) (_ : Unit) => rv = nI (r - zerN O r r)) (fun (_ : Unit) => [(ht, .inr (0, [.int (nI r), .ref hc, .ref hf, .ref hp, .ref ho])), (hc, LA cJ 16 C), (hf, LA cJ 16 F), (hp, LA cJ 16 P), (ho, LA cJ 5 O)]) 0 0 := by
  refine xoi (cc := b_T_rank) (maxL := 2) (by decide) rfl (Nat.le_of_ble_eq_true rfl) ?_
  intro p e s m args below meth c Q A hx hb hml hts hown hN hA hS hP hK hD hret ls hl
  have hl : lv_has ls 2 [(0, .ref ht)] := hl
  obtain ⟨H, hH⟩ : ∃ z, z = s.heap := ⟨_, rfl⟩
  obtain ⟨locs, hlc⟩ : ∃ z : List Loc, z = [] := ⟨_, rfl⟩
  rw [← hH] at hP
  have hS : va_S A s.heap H locs := by rw [hH, hlc]; exact hS
  have key : W p l e rm_c_rank s m args below meth c H locs 0 0 Q (F0 m 0 ls []) := by
    refine lv_iconst (v := nI 0) hx hb d_T_rank_0 (by decide) ?_
    refine lv_istore_n (lv' := [(1, .int (nI 0)), (0, .ref ht)]) hx hb d_T_rank_1 rfl hl (by decide) rfl (fun ls hl => ?_)
    have lp_2 : ∀ (n_2 : Nat) (z : Nat) (H : Heap) (locs : List Loc) (ls : Array Slot), (z ≤ r) → (zerN O r (r - z) = zerN O r r) → (r - z) < n_2 → va_P D vwC [(ht, .inr (0, [.int (nI r), .ref hc, .ref hf, .ref hp, .ref ho])), (hc, LA cJ 16 C), (hf, LA cJ 16 F), (hp, LA cJ 16 P), (ho, LA cJ 5 O)] H → va_D A [(ht, .inr (0, [.int (nI r), .ref hc, .ref hf, .ref hp, .ref ho])), (hc, LA cJ 16 C), (hf, LA cJ 16 F), (hp, LA cJ 16 P), (ho, LA cJ 5 O)] → va_S A s.heap H locs → lv_has ls 2 [(0, .ref ht), (1, .int (nI z))] → W p l e rm_c_rank s m args below meth c H locs 0 0 Q (F0 m 2 ls []) := by
      intro n_2
      induction n_2 with
      | zero => intro z H locs ls hz hzz hn_2; exact absurd hn_2 (Nat.not_lt_zero _)
      | succ n_2 ih_2 =>
        intro z H locs ls hz hzz hn_2 hP hD hS hl
        refine lv_iload_n hx hb d_T_rank_2 rfl (lv_at hl 1 rfl) ?_
        refine lv_aload_n hx hb d_T_rank_3 rfl (lv_at hl 0 rfl) ?_
        refine va_get (D := D) (ci := 0) (v := .int (nI r)) (C := R_T) (T := F_T) (N := 5) hx hb hts iw_T hown hK hP 0 rfl rfl 0 (by decide) (hts _ tw_25) (fun _ h9 => h9) rfl d_T_rank_4 ?_
        refine xn_ge (tgt := 27) hx hb (by omega) (by omega) d_T_rank_7 (by decide) (fun c7_0 => ?_) (fun c7_0 => ?_)
        · skip
          refine lv_aload_n hx hb d_T_rank_27 rfl (lv_at hl 0 rfl) ?_
          refine va_get (D := D) (ci := 0) (v := .int (nI r)) (C := R_T) (T := F_T) (N := 5) hx hb hts iw_T hown hK hP 0 rfl rfl 0 (by decide) (hts _ tw_25) (fun _ h9 => h9) rfl d_T_rank_28 ?_
          refine lv_iload_n hx hb d_T_rank_31 rfl (lv_at hl 1 rfl) ?_
          refine xn_sub hx hb (by omega) d_T_rank_32 ?_
          exact hret H locs _ ls (nI (r - z)) () d_T_rank_33 (by rw [← hzz, show r - z = 0 from by omega]; show nI 0 = nI (r - r); rw [Nat.sub_self]) hP hD hS
        · skip
          refine lv_aload_n hx hb d_T_rank_10 rfl (lv_at hl 0 rfl) ?_
          refine va_get (D := D) (ci := 0) (v := .ref ho) (C := R_T) (T := F_T) (N := 5) hx hb hts iw_T hown hK hP 0 rfl rfl 4 (by decide) (hts _ tw_29) (fun _ h9 => h9) rfl d_T_rank_11 ?_
          refine lv_iload_n hx hb d_T_rank_14 rfl (lv_at hl 1 rfl) ?_
          refine xl_ald hx hb hK hP 4 0 rfl rfl (k := z) (by omega) (by first | decide | omega) d_T_rank_15 ?_
          refine lv_lconst (v := lI 0) hx hb d_T_rank_16 (by decide) ?_
          refine xl_ne (tgt := 27) hx hb (hO _ (by omega)) ⟨by decide, by decide⟩ d_T_rank_17 d_T_rank_18 (by decide) (fun c18_1 => ?_) (fun c18_1 => ?_)
          · skip
            refine lv_aload_n hx hb d_T_rank_27 rfl (lv_at hl 0 rfl) ?_
            refine va_get (D := D) (ci := 0) (v := .int (nI r)) (C := R_T) (T := F_T) (N := 5) hx hb hts iw_T hown hK hP 0 rfl rfl 0 (by decide) (hts _ tw_25) (fun _ h9 => h9) rfl d_T_rank_28 ?_
            refine lv_iload_n hx hb d_T_rank_31 rfl (lv_at hl 1 rfl) ?_
            refine xn_sub hx hb (by omega) d_T_rank_32 ?_
            exact hret H locs _ ls (nI (r - z)) () d_T_rank_33 (by rw [← hzz, zerN_n (by omega) c18_1]) hP hD hS
          · skip
            refine lv_iinc (v := nI (z + 1)) (lv' := [(1, .int (nI (z + 1))), (0, .ref ht)]) hx hb d_T_rank_21 hl (k := 1) rfl (nI_add _ _) (by decide) rfl (fun ls hl => ?_)
            refine lv_goto (tgt := 2) hx hb d_T_rank_24 (by decide) ?_
            exact ih_2 (z + 1) H locs ls (by omega) (by rw [← hzz, zerN_z (by omega) c18_1]) (by omega) hP hD hS (lv_sub hl [1, 0] rfl)
    exact lp_2 ((r - 0) + 1) 0 H locs ls (Nat.zero_le _) rfl (by omega) hP hD hS (lv_sub hl [1, 0] rfl)
  rw [hH, hlc] at key; exact key

def rm_c_above : Room := { frames := 0, cells := 0, slots := 0, locals := 0 }
set_option maxHeartbeats 4000000 in
set_option maxRecDepth 100000 in
/-- sign changes -/
theorem c_above (l : Launch) (D : va_G) (cJ : ClassId) (ht : Nat) (hc : Nat) (hf : Nat) (hp : Nat) (ho : Nat) (r : Nat) (C : Nat → Int) (F : Nat → Int) (P : Nat → Int) (O : Nat → Int) (hr1 : 1 ≤ r) (hr : r ≤ 4) (hO : ∀ k, k < r → lB (O k)) (sz : Nat) : xMi l y_T_countAbove (Cond.code y_T_countAbove b_T_countAbove 7 (some .int) :: tW) rm_c_above [.ref ht] D vwC [(cJ, .long)] sz [(ht, .inr (0, [.int (nI r), .ref hc, .ref hf, .ref hp, .ref ho])), (hc, LA cJ 16 C), (hf, LA cJ 16 F), (hp, LA cJ 16 P), (ho, LA cJ 5 O)] (fun (rv : Int32) (_ : Unit) => rv = nI (chgA O r 1)) (fun (_ : Unit) => [(ht, .inr (0, [.int (nI r), .ref hc, .ref hf, .ref hp, .ref ho])), (hc, LA cJ 16 C), (hf, LA cJ 16 F), (hp, LA cJ 16 P), (ho, LA cJ 5 O)]) 0 0 := by
  refine xoi (cc := b_T_countAbove) (maxL := 7) (by decide) rfl (Nat.le_of_ble_eq_true rfl) ?_
  intro p e s m args below meth c Q A hx hb hml hts hown hN hA hS hP hK hD hret ls hl
  have hl : lv_has ls 7 [(0, .ref ht)] := hl
  obtain ⟨H, hH⟩ : ∃ z, z = s.heap := ⟨_, rfl⟩
  obtain ⟨locs, hlc⟩ : ∃ z : List Loc, z = [] := ⟨_, rfl⟩
  rw [← hH] at hP
  have hS : va_S A s.heap H locs := by rw [hH, hlc]; exact hS
  have key : W p l e rm_c_above s m args below meth c H locs 0 0 Q (F0 m 0 ls []) := by
    refine lv_iconst (v := nI 0) hx hb d_T_countAbove_0 (by decide) ?_
    refine lv_istore_n (lv' := [(1, .int (nI 0)), (0, .ref ht)]) hx hb d_T_countAbove_1 rfl hl (by decide) rfl (fun ls hl => ?_)
    refine lv_lconst (v := lI 1) hx hb d_T_countAbove_2 (by decide) ?_
    refine lv_lstore_n (lv' := [(2, .long (lI 1)), (1, .int (nI 0)), (0, .ref ht)]) hx hb d_T_countAbove_3 rfl hl (by decide) rfl (fun ls hl => ?_)
    refine lv_aload_n hx hb d_T_countAbove_4 rfl (lv_at hl 2 rfl) ?_
    refine va_get (D := D) (ci := 0) (v := .int (nI r)) (C := R_T) (T := F_T) (N := 5) hx hb hts iw_T hown hK hP 0 rfl rfl 0 (by decide) (hts _ tw_25) (fun _ h9 => h9) rfl d_T_countAbove_5 ?_
    refine lv_iconst (v := nI 1) hx hb d_T_countAbove_8 (by decide) ?_
    refine lv_isub hx hb d_T_countAbove_9 ?_
    show W _ _ _ _ _ _ _ _ _ _ _ _ _ _ _ (F0 m _ ls [.int (dI r)])
    refine lv_istore (lv' := [(4, .int (dI r)), (2, .long (lI 1)), (1, .int (nI 0)), (0, .ref ht)]) hx hb d_T_countAbove_10 hl (by decide) rfl (fun ls hl => ?_)
    have lp_12 : ∀ (n_12 : Nat) (n : Nat) (ch : Nat) (x : Int) (H : Heap) (locs : List Loc) (ls : Array Slot), (n ≤ r) → (lB x) → (ch + chgA O n x = chgA O r 1) → n < n_12 → va_P D vwC [(ht, .inr (0, [.int (nI r), .ref hc, .ref hf, .ref hp, .ref ho])), (hc, LA cJ 16 C), (hf, LA cJ 16 F), (hp, LA cJ 16 P), (ho, LA cJ 5 O)] H → va_D A [(ht, .inr (0, [.int (nI r), .ref hc, .ref hf, .ref hp, .ref ho])), (hc, LA cJ 16 C), (hf, LA cJ 16 F), (hp, LA cJ 16 P), (ho, LA cJ 5 O)] → va_S A s.heap H locs → lv_has ls 7 [(0, .ref ht), (1, .int (nI ch)), (2, .long (lI x)), (4, .int (dI n))] → W p l e rm_c_above s m args below meth c H locs 0 0 Q (F0 m 12 ls []) := by
      intro n_12
      induction n_12 with
      | zero => intro n ch x H locs ls hn hla hch hn_12; exact absurd hn_12 (Nat.not_lt_zero _)
      | succ n_12 ih_12 =>
        intro n ch x H locs ls hn hla hch hn_12 hP hD hS hl
        refine lv_iload hx hb d_T_countAbove_12 (lv_at hl 3 rfl) ?_
        refine xz_lt (tgt := 76) (X := (n : Int) - 1) hx hb (dI_toInt (by omega)) d_T_countAbove_14 (by decide) (fun c14 => ?_) (fun c14 => ?_)
        · skip
          refine lv_iload_n hx hb d_T_countAbove_76 rfl (lv_at hl 1 rfl) ?_
          exact hret H locs _ ls (nI ch) () d_T_countAbove_77 (by rw [← hch, show n = 0 from by omega]; rfl) hP hD hS
        · skip
          obtain ⟨k, rfl⟩ : ∃ k, n = k + 1 := ⟨n - 1, by omega⟩
          rw [dI_succ] at hl
          refine lv_aload_n hx hb d_T_countAbove_17 rfl (lv_at hl 0 rfl) ?_
          refine va_get (D := D) (ci := 0) (v := .ref ho) (C := R_T) (T := F_T) (N := 5) hx hb hts iw_T hown hK hP 0 rfl rfl 4 (by decide) (hts _ tw_29) (fun _ h9 => h9) rfl d_T_countAbove_18 ?_
          refine lv_iload hx hb d_T_countAbove_21 (lv_at hl 3 rfl) ?_
          refine xl_ald hx hb hK hP 4 0 rfl rfl (k := k) (by omega) (by first | decide | omega) d_T_countAbove_23 ?_
          refine lv_lstore (lv' := [(5, .long (lI (O k))), (0, .ref ht), (1, .int (nI ch)), (2, .long (lI x)), (4, .int (nI k))]) hx hb d_T_countAbove_24 hl (by decide) rfl (fun ls hl => ?_)
          refine lv_lload hx hb d_T_countAbove_26 (lv_at hl 0 rfl) ?_
          refine lv_lconst (v := lI 0) hx hb d_T_countAbove_28 (by decide) ?_
          refine xl_eq (tgt := 70) hx hb (hO _ (by omega)) ⟨by decide, by decide⟩ d_T_countAbove_29 d_T_countAbove_30 (by decide) (fun c30_0 => ?_) (fun c30_0 => ?_)
          · skip
            refine lv_iinc (v := dI k) (lv' := [(4, .int (dI k)), (5, .long (lI (O k))), (0, .ref ht), (1, .int (nI ch)), (2, .long (lI x))]) hx hb d_T_countAbove_70 hl (k := 4) rfl (dI_of _) (by decide) rfl (fun ls hl => ?_)
            refine lv_goto (tgt := 12) hx hb d_T_countAbove_73 (by decide) ?_
            exact ih_12 k ch x H locs ls (by omega) hla (by rw [← hch, chgA_z c30_0]) (by omega) hP hD hS (lv_sub hl [2, 3, 4, 0] rfl)
          · skip
            refine lv_iload_n hx hb d_T_countAbove_33 rfl (lv_at hl 2 rfl) ?_
            refine lv_lload hx hb d_T_countAbove_34 (lv_at hl 0 rfl) ?_
            refine lv_lconst (v := lI 0) hx hb d_T_countAbove_36 (by decide) ?_
            refine xl_ge (tgt := 45) hx hb (hO _ (by omega)) ⟨by decide, by decide⟩ d_T_countAbove_37 d_T_countAbove_38 (by decide) (fun c38_1 => ?_) (fun c38_1 => ?_)
            · skip
              refine lv_iconst (v := nI 0) hx hb d_T_countAbove_45 (by decide) ?_
              refine lv_lload_n hx hb d_T_countAbove_46 rfl (lv_at hl 3 rfl) ?_
              refine lv_lconst (v := lI 0) hx hb d_T_countAbove_47 (by decide) ?_
              refine xl_ge (tgt := 56) hx hb hla ⟨by decide, by decide⟩ d_T_countAbove_48 d_T_countAbove_49 (by decide) (fun c49_2 => ?_) (fun c49_2 => ?_)
              · skip
                refine lv_iconst (v := nI 0) hx hb d_T_countAbove_56 (by decide) ?_
                refine xn_eq (tgt := 64) hx hb (by omega) (by omega) d_T_countAbove_57 (by decide) (fun c57_3 => ?_) (fun c57_3 => absurd c57_3 (by decide))
                refine lv_iconst (v := nI 0) hx hb d_T_countAbove_64 (by decide) ?_
                refine xn_add hx hb d_T_countAbove_65 ?_
                refine lv_istore_n (lv' := [(1, .int (nI (ch + 0))), (5, .long (lI (O k))), (0, .ref ht), (2, .long (lI x)), (4, .int (nI k))]) hx hb d_T_countAbove_66 rfl hl (by decide) rfl (fun ls hl => ?_)
                refine lv_lload hx hb d_T_countAbove_67 (lv_at hl 1 rfl) ?_
                refine lv_lstore_n (lv' := [(2, .long (lI (O k))), (1, .int (nI (ch + 0))), (5, .long (lI (O k))), (0, .ref ht), (4, .int (nI k))]) hx hb d_T_countAbove_69 rfl hl (by decide) rfl (fun ls hl => ?_)
                refine lv_iinc (v := dI k) (lv' := [(4, .int (dI k)), (2, .long (lI (O k))), (1, .int (nI (ch + 0))), (5, .long (lI (O k))), (0, .ref ht)]) hx hb d_T_countAbove_70 hl (k := 4) rfl (dI_of _) (by decide) rfl (fun ls hl => ?_)
                refine lv_goto (tgt := 12) hx hb d_T_countAbove_73 (by decide) ?_
                exact ih_12 k (ch + 0) (O k) H locs ls (by omega) (hO _ (by omega)) (by rw [← hch, chgA_s c30_0 (by omega)]; omega) (by omega) hP hD hS (lv_sub hl [4, 2, 1, 0] rfl)
              · skip
                refine lv_iconst (v := nI 1) hx hb d_T_countAbove_52 (by decide) ?_
                refine lv_goto (tgt := 57) hx hb d_T_countAbove_53 (by decide) ?_
                refine xn_eq (tgt := 64) hx hb (by omega) (by omega) d_T_countAbove_57 (by decide) (fun c57_4 => absurd c57_4 (by decide)) (fun c57_4 => ?_)
                refine lv_iconst (v := nI 1) hx hb d_T_countAbove_60 (by decide) ?_
                refine lv_goto (tgt := 65) hx hb d_T_countAbove_61 (by decide) ?_
                refine xn_add hx hb d_T_countAbove_65 ?_
                refine lv_istore_n (lv' := [(1, .int (nI (ch + 1))), (5, .long (lI (O k))), (0, .ref ht), (2, .long (lI x)), (4, .int (nI k))]) hx hb d_T_countAbove_66 rfl hl (by decide) rfl (fun ls hl => ?_)
                refine lv_lload hx hb d_T_countAbove_67 (lv_at hl 1 rfl) ?_
                refine lv_lstore_n (lv' := [(2, .long (lI (O k))), (1, .int (nI (ch + 1))), (5, .long (lI (O k))), (0, .ref ht), (4, .int (nI k))]) hx hb d_T_countAbove_69 rfl hl (by decide) rfl (fun ls hl => ?_)
                refine lv_iinc (v := dI k) (lv' := [(4, .int (dI k)), (2, .long (lI (O k))), (1, .int (nI (ch + 1))), (5, .long (lI (O k))), (0, .ref ht)]) hx hb d_T_countAbove_70 hl (k := 4) rfl (dI_of _) (by decide) rfl (fun ls hl => ?_)
                refine lv_goto (tgt := 12) hx hb d_T_countAbove_73 (by decide) ?_
                exact ih_12 k (ch + 1) (O k) H locs ls (by omega) (hO _ (by omega)) (by rw [← hch, chgA_d c30_0 (by omega)]; omega) (by omega) hP hD hS (lv_sub hl [4, 2, 1, 0] rfl)
            · skip
              refine lv_iconst (v := nI 1) hx hb d_T_countAbove_41 (by decide) ?_
              refine lv_goto (tgt := 46) hx hb d_T_countAbove_42 (by decide) ?_
              refine lv_lload_n hx hb d_T_countAbove_46 rfl (lv_at hl 3 rfl) ?_
              refine lv_lconst (v := lI 0) hx hb d_T_countAbove_47 (by decide) ?_
              refine xl_ge (tgt := 56) hx hb hla ⟨by decide, by decide⟩ d_T_countAbove_48 d_T_countAbove_49 (by decide) (fun c49_5 => ?_) (fun c49_5 => ?_)
              · skip
                refine lv_iconst (v := nI 0) hx hb d_T_countAbove_56 (by decide) ?_
                refine xn_eq (tgt := 64) hx hb (by omega) (by omega) d_T_countAbove_57 (by decide) (fun c57_6 => absurd c57_6 (by decide)) (fun c57_6 => ?_)
                refine lv_iconst (v := nI 1) hx hb d_T_countAbove_60 (by decide) ?_
                refine lv_goto (tgt := 65) hx hb d_T_countAbove_61 (by decide) ?_
                refine xn_add hx hb d_T_countAbove_65 ?_
                refine lv_istore_n (lv' := [(1, .int (nI (ch + 1))), (5, .long (lI (O k))), (0, .ref ht), (2, .long (lI x)), (4, .int (nI k))]) hx hb d_T_countAbove_66 rfl hl (by decide) rfl (fun ls hl => ?_)
                refine lv_lload hx hb d_T_countAbove_67 (lv_at hl 1 rfl) ?_
                refine lv_lstore_n (lv' := [(2, .long (lI (O k))), (1, .int (nI (ch + 1))), (5, .long (lI (O k))), (0, .ref ht), (4, .int (nI k))]) hx hb d_T_countAbove_69 rfl hl (by decide) rfl (fun ls hl => ?_)
                refine lv_iinc (v := dI k) (lv' := [(4, .int (dI k)), (2, .long (lI (O k))), (1, .int (nI (ch + 1))), (5, .long (lI (O k))), (0, .ref ht)]) hx hb d_T_countAbove_70 hl (k := 4) rfl (dI_of _) (by decide) rfl (fun ls hl => ?_)
                refine lv_goto (tgt := 12) hx hb d_T_countAbove_73 (by decide) ?_
                exact ih_12 k (ch + 1) (O k) H locs ls (by omega) (hO _ (by omega)) (by rw [← hch, chgA_d c30_0 (by omega)]; omega) (by omega) hP hD hS (lv_sub hl [4, 2, 1, 0] rfl)
              · skip
                refine lv_iconst (v := nI 1) hx hb d_T_countAbove_52 (by decide) ?_
                refine lv_goto (tgt := 57) hx hb d_T_countAbove_53 (by decide) ?_
                refine xn_eq (tgt := 64) hx hb (by omega) (by omega) d_T_countAbove_57 (by decide) (fun c57_7 => ?_) (fun c57_7 => absurd c57_7 (by decide))
                refine lv_iconst (v := nI 0) hx hb d_T_countAbove_64 (by decide) ?_
                refine xn_add hx hb d_T_countAbove_65 ?_
                refine lv_istore_n (lv' := [(1, .int (nI (ch + 0))), (5, .long (lI (O k))), (0, .ref ht), (2, .long (lI x)), (4, .int (nI k))]) hx hb d_T_countAbove_66 rfl hl (by decide) rfl (fun ls hl => ?_)
                refine lv_lload hx hb d_T_countAbove_67 (lv_at hl 1 rfl) ?_
                refine lv_lstore_n (lv' := [(2, .long (lI (O k))), (1, .int (nI (ch + 0))), (5, .long (lI (O k))), (0, .ref ht), (4, .int (nI k))]) hx hb d_T_countAbove_69 rfl hl (by decide) rfl (fun ls hl => ?_)
                refine lv_iinc (v := dI k) (lv' := [(4, .int (dI k)), (2, .long (lI (O k))), (1, .int (nI (ch + 0))), (5, .long (lI (O k))), (0, .ref ht)]) hx hb d_T_countAbove_70 hl (k := 4) rfl (dI_of _) (by decide) rfl (fun ls hl => ?_)
                refine lv_goto (tgt := 12) hx hb d_T_countAbove_73 (by decide) ?_
                exact ih_12 k (ch + 0) (O k) H locs ls (by omega) (hO _ (by omega)) (by rw [← hch, chgA_s c30_0 (by omega)]; omega) (by omega) hP hD hS (lv_sub hl [4, 2, 1, 0] rfl)
    exact lp_12 (r + 1) r 0 1 H locs ls (Nat.le_refl _) (⟨by decide, by decide⟩) (Nat.zero_add _) (by omega) hP hD hS (lv_sub hl [3, 2, 1, 0] rfl)
  rw [hH, hlc] at key; exact key

def rm_c_below : Room := { frames := 1, cells := 0, slots := 0, locals := 26 }
set_option maxHeartbeats 4000000 in
set_option maxRecDepth 100000 in
/-- rank less those above -/
theorem c_below (l : Launch) (D : va_G) (cJ : ClassId) (ht : Nat) (hc : Nat) (hf : Nat) (hp : Nat) (ho : Nat) (r : Nat) (C : Nat → Int) (F : Nat → Int) (P : Nat → Int) (O : Nat → Int) (hr1 : 1 ≤ r) (hr : r ≤ 4) (hO : ∀ k, k < r → lB (O k)) (sz : Nat) : xMi l y_T_countBelow (Cond.code y_T_countBelow b_T_countBelow 1 (some .int) :: tW) rm_c_below [.ref ht] D vwC [(cJ, .long)] sz [(ht, .inr (0, [.int (nI r), .ref hc, .ref hf, .ref hp, .ref ho])), (hc, LA cJ 16 C), (hf, LA cJ 16 F), (hp, LA cJ 16 P), (ho, LA cJ 5 O)] (fun (rv : Int32) (_ : Unit) => rv = nI (r - zerN O r r - chgA O r 1)) (fun (_ : Unit) => [(ht, .inr (0, [.int (nI r), .ref hc, .ref hf, .ref hp, .ref ho])), (hc, LA cJ 16 C), (hf, LA cJ 16 F), (hp, LA cJ 16 P), (ho, LA cJ 5 O)]) 0 0 := by
  refine xoi (cc := b_T_countBelow) (maxL := 1) (by decide) rfl (Nat.le_of_ble_eq_true rfl) ?_
  intro p e s m args below meth c Q A hx hb hml hts hown hN hA hS hP hK hD hret ls hl
  have hl : lv_has ls 1 [(0, .ref ht)] := hl
  obtain ⟨H, hH⟩ : ∃ z, z = s.heap := ⟨_, rfl⟩
  obtain ⟨locs, hlc⟩ : ∃ z : List Loc, z = [] := ⟨_, rfl⟩
  rw [← hH] at hP
  have hS : va_S A s.heap H locs := by rw [hH, hlc]; exact hS
  have key : W p l e rm_c_below s m args below meth c H locs 0 0 Q (F0 m 0 ls []) := by
    refine lv_aload_n hx hb d_T_countBelow_0 rfl (lv_at hl 0 rfl) ?_
    refine xci (wc := [(ht, .inr (0, [.int (nI r), .ref hc, .ref hf, .ref hp, .ref ho])), (hc, LA cJ 16 C), (hf, LA cJ 16 F), (hp, LA cJ 16 P), (ho, LA cJ 5 O)]) (wr := []) hP hD hS hA [0, 1, 2, 3, 4] [] rfl rfl (by decide) (by decide) (va_runV (As := []) (rest := []) ⟨hx, hb, hml, hown, hts⟩ (c_rank l D cJ ht hc hf hp ho r C F P O (by first | assumption | omega) (by first | assumption | omega) H.size) (cwV 0 hts (gV tw_126 tw_127 tw_128 tw_2 tw_129) rfl rfl rfl ⟨rfl, hd_T_rank⟩ ⟨Nat.le_of_ble_eq_true rfl, Nat.le_of_ble_eq_true rfl⟩) (xPreV (C := R_T) (T := F_T) (N := 5) (q0 := 0) hN hK (hP.sub (ws' := [(ht, .inr (0, [.int (nI r), .ref hc, .ref hf, .ref hp, .ref ho])), (hc, LA cJ 16 C), (hf, LA cJ 16 F), (hp, LA cJ 16 P), (ho, LA cJ 5 O)]) [0, 1, 2, 3, 4] rfl) (hD.sub (ws' := [(ht, .inr (0, [.int (nI r), .ref hc, .ref hf, .ref hp, .ref ho])), (hc, LA cJ 16 C), (hf, LA cJ 16 F), (hp, LA cJ 16 P), (ho, LA cJ 5 O)]) [0, 1, 2, 3, 4] (by decide) rfl) rfl rfl) rfl rfl hl.1 rfl (lv_room (Nat.le_of_ble_eq_true rfl)) d_T_countBelow_1 ⟨Nat.le_of_ble_eq_true rfl, Nat.le_of_ble_eq_true rfl⟩) (fun r_1 u_2 H locs hw_3 hP hD hS => ?_)
    try dsimp only at hw_3
    have hP : va_P D vwC [(ht, .inr (0, [.int (nI r), .ref hc, .ref hf, .ref hp, .ref ho])), (hc, LA cJ 16 C), (hf, LA cJ 16 F), (hp, LA cJ 16 P), (ho, LA cJ 5 O)] H := hP
    have hD : va_D A [(ht, .inr (0, [.int (nI r), .ref hc, .ref hf, .ref hp, .ref ho])), (hc, LA cJ 16 C), (hf, LA cJ 16 F), (hp, LA cJ 16 P), (ho, LA cJ 5 O)] := hD
    subst hw_3
    refine lv_aload_n hx hb d_T_countBelow_4 rfl (lv_at hl 0 rfl) ?_
    refine xci (wc := [(ht, .inr (0, [.int (nI r), .ref hc, .ref hf, .ref hp, .ref ho])), (hc, LA cJ 16 C), (hf, LA cJ 16 F), (hp, LA cJ 16 P), (ho, LA cJ 5 O)]) (wr := []) hP hD hS hA [0, 1, 2, 3, 4] [] rfl rfl (by decide) (by decide) (va_runV (As := []) (rest := [.int (nI (r - zerN O r r))]) ⟨hx, hb, hml, hown, hts⟩ (c_above l D cJ ht hc hf hp ho r C F P O (by first | assumption | omega) (by first | assumption | omega) (by first | assumption | omega) H.size) (cwV 0 hts (gV tw_130 tw_119 tw_120 tw_2 tw_121) rfl rfl rfl ⟨rfl, hd_T_countAbove⟩ ⟨Nat.le_of_ble_eq_true rfl, Nat.le_of_ble_eq_true rfl⟩) (xPreV (C := R_T) (T := F_T) (N := 5) (q0 := 0) hN hK (hP.sub (ws' := [(ht, .inr (0, [.int (nI r), .ref hc, .ref hf, .ref hp, .ref ho])), (hc, LA cJ 16 C), (hf, LA cJ 16 F), (hp, LA cJ 16 P), (ho, LA cJ 5 O)]) [0, 1, 2, 3, 4] rfl) (hD.sub (ws' := [(ht, .inr (0, [.int (nI r), .ref hc, .ref hf, .ref hp, .ref ho])), (hc, LA cJ 16 C), (hf, LA cJ 16 F), (hp, LA cJ 16 P), (ho, LA cJ 5 O)]) [0, 1, 2, 3, 4] (by decide) rfl) rfl rfl) rfl rfl hl.1 rfl (lv_room (Nat.le_of_ble_eq_true rfl)) d_T_countBelow_5 ⟨Nat.le_of_ble_eq_true rfl, Nat.le_of_ble_eq_true rfl⟩) (fun r_4 u_5 H locs hw_6 hP hD hS => ?_)
    try dsimp only at hw_6
    have hP : va_P D vwC [(ht, .inr (0, [.int (nI r), .ref hc, .ref hf, .ref hp, .ref ho])), (hc, LA cJ 16 C), (hf, LA cJ 16 F), (hp, LA cJ 16 P), (ho, LA cJ 5 O)] H := hP
    have hD : va_D A [(ht, .inr (0, [.int (nI r), .ref hc, .ref hf, .ref hp, .ref ho])), (hc, LA cJ 16 C), (hf, LA cJ 16 F), (hp, LA cJ 16 P), (ho, LA cJ 5 O)] := hD
    subst hw_6
    have hle := chg_le O r 1
    refine xn_sub hx hb (by omega) d_T_countBelow_8 ?_
    exact hret H locs _ ls (nI ((r - zerN O r r) - (chgA O r 1))) () d_T_countBelow_9 rfl hP hD hS
  rw [hH, hlc] at key; exact key

def rm_c_disc : Room := { frames := 0, cells := 0, slots := 0, locals := 0 }
set_option maxHeartbeats 4000000 in
set_option maxRecDepth 100000 in
/-- the discriminant -/
theorem c_disc (l : Launch) (D : va_G) (cJ : ClassId) (su : Int) (pa : Int) (al : Int)  (sz : Nat) : xMl l y_T_discriminant (Cond.code y_T_discriminant b_T_discriminant 6 (some .long) :: tW) rm_c_disc [.long (lI su), .long (lI pa), .long (lI al)] D vwC [(cJ, .long)] sz [] (fun (rv : Int64) (_ : Unit) => rv = lI (discZ su pa al)) (fun (_ : Unit) => []) 0 0 := by
  refine xol (cc := b_T_discriminant) (maxL := 6) (by decide) rfl (Nat.le_of_ble_eq_true rfl) ?_
  intro p e s m args below meth c Q A hx hb hml hts hown hN hA hS hP hK hD hret ls hl
  have hl : lv_has ls 6 [(0, .long (lI su)), (2, .long (lI pa)), (4, .long (lI al))] := hl
  obtain ⟨H, hH⟩ : ∃ z, z = s.heap := ⟨_, rfl⟩
  obtain ⟨locs, hlc⟩ : ∃ z : List Loc, z = [] := ⟨_, rfl⟩
  rw [← hH] at hP
  have hS : va_S A s.heap H locs := by rw [hH, hlc]; exact hS
  have key : W p l e rm_c_disc s m args below meth c H locs 0 0 Q (F0 m 0 ls []) := by
    refine lv_lload_n hx hb d_T_discriminant_0 rfl (lv_at hl 0 rfl) ?_
    refine lv_lload_n hx hb d_T_discriminant_1 rfl (lv_at hl 0 rfl) ?_
    refine xl_mul hx hb d_T_discriminant_2 ?_
    refine lv_lload_n hx hb d_T_discriminant_3 rfl (lv_at hl 1 rfl) ?_
    refine xl_mul hx hb d_T_discriminant_4 ?_
    refine lv_lload_n hx hb d_T_discriminant_5 rfl (lv_at hl 1 rfl) ?_
    refine xl_mul hx hb d_T_discriminant_6 ?_
    refine lv_ldc2 (v := lI (4)) hx hb hown (hts _ tw_199) d_T_discriminant_7 ?_
    refine lv_lload_n hx hb d_T_discriminant_10 rfl (lv_at hl 1 rfl) ?_
    refine xl_mul hx hb d_T_discriminant_11 ?_
    refine lv_lload_n hx hb d_T_discriminant_12 rfl (lv_at hl 1 rfl) ?_
    refine xl_mul hx hb d_T_discriminant_13 ?_
    refine lv_lload_n hx hb d_T_discriminant_14 rfl (lv_at hl 1 rfl) ?_
    refine xl_mul hx hb d_T_discriminant_15 ?_
    refine xl_sub hx hb d_T_discriminant_16 ?_
    refine lv_ldc2 (v := lI (4)) hx hb hown (hts _ tw_199) d_T_discriminant_17 ?_
    refine lv_lload_n hx hb d_T_discriminant_20 rfl (lv_at hl 0 rfl) ?_
    refine xl_mul hx hb d_T_discriminant_21 ?_
    refine lv_lload_n hx hb d_T_discriminant_22 rfl (lv_at hl 0 rfl) ?_
    refine xl_mul hx hb d_T_discriminant_23 ?_
    refine lv_lload_n hx hb d_T_discriminant_24 rfl (lv_at hl 0 rfl) ?_
    refine xl_mul hx hb d_T_discriminant_25 ?_
    refine lv_lload hx hb d_T_discriminant_26 (lv_at hl 2 rfl) ?_
    refine xl_mul hx hb d_T_discriminant_28 ?_
    refine xl_sub hx hb d_T_discriminant_29 ?_
    refine lv_ldc2 (v := lI (18)) hx hb hown (hts _ tw_205) d_T_discriminant_30 ?_
    refine lv_lload_n hx hb d_T_discriminant_33 rfl (lv_at hl 0 rfl) ?_
    refine xl_mul hx hb d_T_discriminant_34 ?_
    refine lv_lload_n hx hb d_T_discriminant_35 rfl (lv_at hl 1 rfl) ?_
    refine xl_mul hx hb d_T_discriminant_36 ?_
    refine lv_lload hx hb d_T_discriminant_37 (lv_at hl 2 rfl) ?_
    refine xl_mul hx hb d_T_discriminant_39 ?_
    refine xl_add hx hb d_T_discriminant_40 ?_
    refine lv_ldc2 (v := lI (27)) hx hb hown (hts _ tw_206) d_T_discriminant_41 ?_
    refine lv_lload hx hb d_T_discriminant_44 (lv_at hl 2 rfl) ?_
    refine xl_mul hx hb d_T_discriminant_46 ?_
    refine lv_lload hx hb d_T_discriminant_47 (lv_at hl 2 rfl) ?_
    refine xl_mul hx hb d_T_discriminant_49 ?_
    refine xl_sub hx hb d_T_discriminant_50 ?_
    exact hret H locs _ ls (lI (((((((su * su) * pa) * pa) - ((((4) * pa) * pa) * pa)) - (((((4) * su) * su) * su) * al)) + ((((18) * su) * pa) * al)) - (((27) * al) * al))) () d_T_discriminant_51 rfl hP hD hS
  rw [hH, hlc] at key; exact key

def rm_c_unlike : Room := { frames := 1, cells := 0, slots := 0, locals := 25 }
set_option maxHeartbeats 4000000 in
set_option maxRecDepth 100000 in
/-- how many unlike values -/
theorem c_unlike (l : Launch) (D : va_G) (cJ : ClassId) (ht : Nat) (hc : Nat) (hf : Nat) (hp : Nat) (ho : Nat) (r : Nat) (C : Nat → Int) (F : Nat → Int) (P : Nat → Int) (O : Nat → Int) (hr1 : 2 ≤ r) (hr : r ≤ 3) (h1 : lB (-(O (r - 1)) * -(O (r - 1)))) (h2 : lB (4 * O (r - 2))) (h3 : lB (3 * O (r - 2))) (h4 : lB (discZ (-(O (r - 1))) (O (r - 2)) (-(O 0)))) (sz : Nat) : xMi l y_T_countUnlike (Cond.code y_T_countUnlike b_T_countUnlike 5 (some .int) :: tW) rm_c_unlike [.ref ht] D vwC [(cJ, .long)] sz [(ht, .inr (0, [.int (nI r), .ref hc, .ref hf, .ref hp, .ref ho])), (hc, LA cJ 16 C), (hf, LA cJ 16 F), (hp, LA cJ 16 P), (ho, LA cJ 5 O)] (fun (rv : Int32) (_ : Unit) => rv = nI (unlZ r (-(O (r - 1))) (O (r - 2)) (-(O 0)))) (fun (_ : Unit) => [(ht, .inr (0, [.int (nI r), .ref hc, .ref hf, .ref hp, .ref ho])), (hc, LA cJ 16 C), (hf, LA cJ 16 F), (hp, LA cJ 16 P), (ho, LA cJ 5 O)]) 0 0 := by
  refine xoi (cc := b_T_countUnlike) (maxL := 5) (by decide) rfl (Nat.le_of_ble_eq_true rfl) ?_
  intro p e s m args below meth c Q A hx hb hml hts hown hN hA hS hP hK hD hret ls hl
  have hl : lv_has ls 5 [(0, .ref ht)] := hl
  obtain ⟨H, hH⟩ : ∃ z, z = s.heap := ⟨_, rfl⟩
  obtain ⟨locs, hlc⟩ : ∃ z : List Loc, z = [] := ⟨_, rfl⟩
  rw [← hH] at hP
  have hS : va_S A s.heap H locs := by rw [hH, hlc]; exact hS
  have key : W p l e rm_c_unlike s m args below meth c H locs 0 0 Q (F0 m 0 ls []) := by
    refine lv_aload_n hx hb d_T_countUnlike_0 rfl (lv_at hl 0 rfl) ?_
    refine xcl (wc := [(ht, .inr (0, [.int (nI r), .ref hc, .ref hf, .ref hp, .ref ho])), (hc, LA cJ 16 C), (hf, LA cJ 16 F), (hp, LA cJ 16 P), (ho, LA cJ 5 O)]) (wr := []) hP hD hS hA [0, 1, 2, 3, 4] [] rfl rfl (by decide) (by decide) (va_runV (As := []) (rest := []) ⟨hx, hb, hml, hown, hts⟩ (c_sum l D cJ ht hc hf hp ho r C F P O (by first | assumption | omega) (by first | assumption | omega) H.size) (cwV 0 hts (gV tw_197 tw_149 tw_150 tw_2 tw_151) rfl rfl rfl ⟨rfl, hd_T_sumOfValues⟩ ⟨Nat.le_of_ble_eq_true rfl, Nat.le_of_ble_eq_true rfl⟩) (xPreV (C := R_T) (T := F_T) (N := 5) (q0 := 0) hN hK (hP.sub (ws' := [(ht, .inr (0, [.int (nI r), .ref hc, .ref hf, .ref hp, .ref ho])), (hc, LA cJ 16 C), (hf, LA cJ 16 F), (hp, LA cJ 16 P), (ho, LA cJ 5 O)]) [0, 1, 2, 3, 4] rfl) (hD.sub (ws' := [(ht, .inr (0, [.int (nI r), .ref hc, .ref hf, .ref hp, .ref ho])), (hc, LA cJ 16 C), (hf, LA cJ 16 F), (hp, LA cJ 16 P), (ho, LA cJ 5 O)]) [0, 1, 2, 3, 4] (by decide) rfl) rfl rfl) rfl rfl hl.1 rfl (lv_room (Nat.le_of_ble_eq_true rfl)) d_T_countUnlike_1 ⟨Nat.le_of_ble_eq_true rfl, Nat.le_of_ble_eq_true rfl⟩) (fun r_1 u_2 H locs hw_3 hP hD hS => ?_)
    try dsimp only at hw_3
    have hP : va_P D vwC [(ht, .inr (0, [.int (nI r), .ref hc, .ref hf, .ref hp, .ref ho])), (hc, LA cJ 16 C), (hf, LA cJ 16 F), (hp, LA cJ 16 P), (ho, LA cJ 5 O)] H := hP
    have hD : va_D A [(ht, .inr (0, [.int (nI r), .ref hc, .ref hf, .ref hp, .ref ho])), (hc, LA cJ 16 C), (hf, LA cJ 16 F), (hp, LA cJ 16 P), (ho, LA cJ 5 O)] := hD
    subst hw_3
    refine lv_lstore_n (lv' := [(1, .long (lI (-(O (r - 1))))), (0, .ref ht)]) hx hb d_T_countUnlike_4 rfl hl (by decide) rfl (fun ls hl => ?_)
    refine lv_aload_n hx hb d_T_countUnlike_5 rfl (lv_at hl 1 rfl) ?_
    refine xcl (wc := [(ht, .inr (0, [.int (nI r), .ref hc, .ref hf, .ref hp, .ref ho])), (hc, LA cJ 16 C), (hf, LA cJ 16 F), (hp, LA cJ 16 P), (ho, LA cJ 5 O)]) (wr := []) hP hD hS hA [0, 1, 2, 3, 4] [] rfl rfl (by decide) (by decide) (va_runV (As := []) (rest := []) ⟨hx, hb, hml, hown, hts⟩ (c_pairs l D cJ ht hc hf hp ho r C F P O (by first | assumption | omega) (by first | assumption | omega) H.size) (cwV 0 hts (gV tw_198 tw_153 tw_154 tw_2 tw_155) rfl rfl rfl ⟨rfl, hd_T_sumOfPairs⟩ ⟨Nat.le_of_ble_eq_true rfl, Nat.le_of_ble_eq_true rfl⟩) (xPreV (C := R_T) (T := F_T) (N := 5) (q0 := 0) hN hK (hP.sub (ws' := [(ht, .inr (0, [.int (nI r), .ref hc, .ref hf, .ref hp, .ref ho])), (hc, LA cJ 16 C), (hf, LA cJ 16 F), (hp, LA cJ 16 P), (ho, LA cJ 5 O)]) [0, 1, 2, 3, 4] rfl) (hD.sub (ws' := [(ht, .inr (0, [.int (nI r), .ref hc, .ref hf, .ref hp, .ref ho])), (hc, LA cJ 16 C), (hf, LA cJ 16 F), (hp, LA cJ 16 P), (ho, LA cJ 5 O)]) [0, 1, 2, 3, 4] (by decide) rfl) rfl rfl) rfl rfl hl.1 rfl (lv_room (Nat.le_of_ble_eq_true rfl)) d_T_countUnlike_6 ⟨Nat.le_of_ble_eq_true rfl, Nat.le_of_ble_eq_true rfl⟩) (fun r_4 u_5 H locs hw_6 hP hD hS => ?_)
    try dsimp only at hw_6
    have hP : va_P D vwC [(ht, .inr (0, [.int (nI r), .ref hc, .ref hf, .ref hp, .ref ho])), (hc, LA cJ 16 C), (hf, LA cJ 16 F), (hp, LA cJ 16 P), (ho, LA cJ 5 O)] H := hP
    have hD : va_D A [(ht, .inr (0, [.int (nI r), .ref hc, .ref hf, .ref hp, .ref ho])), (hc, LA cJ 16 C), (hf, LA cJ 16 F), (hp, LA cJ 16 P), (ho, LA cJ 5 O)] := hD
    subst hw_6
    refine lv_lstore_n (lv' := [(3, .long (lI (O (r - 2)))), (1, .long (lI (-(O (r - 1))))), (0, .ref ht)]) hx hb d_T_countUnlike_9 rfl hl (by decide) rfl (fun ls hl => ?_)
    refine lv_aload_n hx hb d_T_countUnlike_10 rfl (lv_at hl 2 rfl) ?_
    refine va_get (D := D) (ci := 0) (v := .int (nI r)) (C := R_T) (T := F_T) (N := 5) hx hb hts iw_T hown hK hP 0 rfl rfl 0 (by decide) (hts _ tw_25) (fun _ h9 => h9) rfl d_T_countUnlike_11 ?_
    refine lv_iconst (v := nI 2) hx hb d_T_countUnlike_14 (by decide) ?_
    refine xn_ne (tgt := 36) hx hb (by omega) (by omega) d_T_countUnlike_15 (by decide) (fun c15_6 => ?_) (fun c15_6 => ?_)
    · skip
      refine lv_lload_n hx hb d_T_countUnlike_36 rfl (lv_at hl 1 rfl) ?_
      refine lv_lload_n hx hb d_T_countUnlike_37 rfl (lv_at hl 1 rfl) ?_
      refine xl_mul hx hb d_T_countUnlike_38 ?_
      refine lv_ldc2 (v := lI (3)) hx hb hown (hts _ tw_200) d_T_countUnlike_39 ?_
      refine lv_lload_n hx hb d_T_countUnlike_42 rfl (lv_at hl 0 rfl) ?_
      refine xl_mul hx hb d_T_countUnlike_43 ?_
      refine xl_ne (tgt := 50) hx hb (by first | assumption | (unfold lB; omega)) (by first | assumption | (unfold lB; omega)) d_T_countUnlike_44 d_T_countUnlike_45 (by decide) (fun c45_7 => ?_) (fun c45_7 => ?_)
      · skip
        refine lv_lload_n hx hb d_T_countUnlike_50 rfl (lv_at hl 1 rfl) ?_
        refine lv_lload_n hx hb d_T_countUnlike_51 rfl (lv_at hl 0 rfl) ?_
        refine lv_aload_n hx hb d_T_countUnlike_52 rfl (lv_at hl 2 rfl) ?_
        refine xcl (wc := [(ht, .inr (0, [.int (nI r), .ref hc, .ref hf, .ref hp, .ref ho])), (hc, LA cJ 16 C), (hf, LA cJ 16 F), (hp, LA cJ 16 P), (ho, LA cJ 5 O)]) (wr := []) hP hD hS hA [0, 1, 2, 3, 4] [] rfl rfl (by decide) (by decide) (va_runV (As := []) (rest := [.long (lI (O (r - 2))), .long (lI (-(O (r - 1))))]) ⟨hx, hb, hml, hown, hts⟩ (c_product l D cJ ht hc hf hp ho r C F P O (by first | assumption | omega) H.size) (cwV 0 hts (gV tw_201 tw_157 tw_158 tw_2 tw_159) rfl rfl rfl ⟨rfl, hd_T_productOfValues⟩ ⟨Nat.le_of_ble_eq_true rfl, Nat.le_of_ble_eq_true rfl⟩) (xPreV (C := R_T) (T := F_T) (N := 5) (q0 := 0) hN hK (hP.sub (ws' := [(ht, .inr (0, [.int (nI r), .ref hc, .ref hf, .ref hp, .ref ho])), (hc, LA cJ 16 C), (hf, LA cJ 16 F), (hp, LA cJ 16 P), (ho, LA cJ 5 O)]) [0, 1, 2, 3, 4] rfl) (hD.sub (ws' := [(ht, .inr (0, [.int (nI r), .ref hc, .ref hf, .ref hp, .ref ho])), (hc, LA cJ 16 C), (hf, LA cJ 16 F), (hp, LA cJ 16 P), (ho, LA cJ 5 O)]) [0, 1, 2, 3, 4] (by decide) rfl) rfl rfl) rfl rfl hl.1 rfl (lv_room (Nat.le_of_ble_eq_true rfl)) d_T_countUnlike_53 ⟨Nat.le_of_ble_eq_true rfl, Nat.le_of_ble_eq_true rfl⟩) (fun r_9 u_10 H locs hw_11 hP hD hS => ?_)
        try dsimp only at hw_11
        have hP : va_P D vwC [(ht, .inr (0, [.int (nI r), .ref hc, .ref hf, .ref hp, .ref ho])), (hc, LA cJ 16 C), (hf, LA cJ 16 F), (hp, LA cJ 16 P), (ho, LA cJ 5 O)] H := hP
        have hD : va_D A [(ht, .inr (0, [.int (nI r), .ref hc, .ref hf, .ref hp, .ref ho])), (hc, LA cJ 16 C), (hf, LA cJ 16 F), (hp, LA cJ 16 P), (ho, LA cJ 5 O)] := hD
        subst hw_11
        rw [if_neg (show ¬ r % 2 = 0 from by omega)]
        refine xcl (wc := []) (wr := [(ht, .inr (0, [.int (nI r), .ref hc, .ref hf, .ref hp, .ref ho])), (hc, LA cJ 16 C), (hf, LA cJ 16 F), (hp, LA cJ 16 P), (ho, LA cJ 5 O)]) hP hD hS hA [] [0, 1, 2, 3, 4] rfl rfl (by decide) (by decide) (va_runS (As := [.long (lI (-(O (r - 1)))), .long (lI (O (r - 2))), .long (lI (-(O 0)))]) (rest := []) ⟨hx, hb, hml, hown, hts⟩ (c_disc l D cJ (-(O (r - 1))) (O (r - 2)) (-(O 0)) H.size) (cwS 3 hts (gS tw_202 tw_203 tw_2 tw_204) rfl rfl rfl ⟨rfl, hd_T_discriminant⟩ ⟨Nat.le_of_ble_eq_true rfl, Nat.le_of_ble_eq_true rfl⟩) (xPreS hN hK (hP.sub (ws' := []) [] rfl) (hD.sub (ws' := []) [] (by decide) rfl)) rfl rfl hl.1 rfl (lv_room (Nat.le_of_ble_eq_true rfl)) d_T_countUnlike_56 ⟨Nat.le_of_ble_eq_true rfl, Nat.le_of_ble_eq_true rfl⟩) (fun r_12 u_13 H locs hw_14 hP hD hS => ?_)
        try dsimp only at hw_14
        have hP : va_P D vwC [(ht, .inr (0, [.int (nI r), .ref hc, .ref hf, .ref hp, .ref ho])), (hc, LA cJ 16 C), (hf, LA cJ 16 F), (hp, LA cJ 16 P), (ho, LA cJ 5 O)] H := hP
        have hD : va_D A [(ht, .inr (0, [.int (nI r), .ref hc, .ref hf, .ref hp, .ref ho])), (hc, LA cJ 16 C), (hf, LA cJ 16 F), (hp, LA cJ 16 P), (ho, LA cJ 5 O)] := hD
        subst hw_14
        refine lv_lconst (v := lI 0) hx hb d_T_countUnlike_59 (by decide) ?_
        refine xl_ne (tgt := 68) hx hb (by first | assumption | (unfold lB; omega)) ⟨by decide, by decide⟩ d_T_countUnlike_60 d_T_countUnlike_61 (by decide) (fun c61_14 => ?_) (fun c61_14 => ?_)
        · skip
          refine lv_iconst (v := nI 3) hx hb d_T_countUnlike_68 (by decide) ?_
          exact hret H locs _ ls (nI 3) () d_T_countUnlike_69 (by unfold unlZ; rw [if_neg c15_6]; rw [if_neg c45_7]; rw [if_neg c61_14]) hP hD hS
        · skip
          refine lv_iconst (v := nI 2) hx hb d_T_countUnlike_64 (by decide) ?_
          refine lv_goto (tgt := 69) hx hb d_T_countUnlike_65 (by decide) ?_
          exact hret H locs _ ls (nI 2) () d_T_countUnlike_69 (by unfold unlZ; rw [if_neg c15_6]; rw [if_neg c45_7]; rw [if_pos c61_14]) hP hD hS
      · skip
        refine lv_iconst (v := nI 1) hx hb d_T_countUnlike_48 (by decide) ?_
        exact hret H locs _ ls (nI 1) () d_T_countUnlike_49 (by unfold unlZ; rw [if_neg c15_6]; rw [if_pos c45_7]) hP hD hS
    · skip
      refine lv_lload_n hx hb d_T_countUnlike_18 rfl (lv_at hl 1 rfl) ?_
      refine lv_lload_n hx hb d_T_countUnlike_19 rfl (lv_at hl 1 rfl) ?_
      refine xl_mul hx hb d_T_countUnlike_20 ?_
      refine lv_ldc2 (v := lI (4)) hx hb hown (hts _ tw_199) d_T_countUnlike_21 ?_
      refine lv_lload_n hx hb d_T_countUnlike_24 rfl (lv_at hl 0 rfl) ?_
      refine xl_mul hx hb d_T_countUnlike_25 ?_
      refine xl_ne (tgt := 34) hx hb (by first | assumption | (unfold lB; omega)) (by first | assumption | (unfold lB; omega)) d_T_countUnlike_26 d_T_countUnlike_27 (by decide) (fun c27_15 => ?_) (fun c27_15 => ?_)
      · skip
        refine lv_iconst (v := nI 2) hx hb d_T_countUnlike_34 (by decide) ?_
        exact hret H locs _ ls (nI 2) () d_T_countUnlike_35 (by unfold unlZ; rw [if_pos c15_6]; rw [if_neg c27_15]) hP hD hS
      · skip
        refine lv_iconst (v := nI 1) hx hb d_T_countUnlike_30 (by decide) ?_
        refine lv_goto (tgt := 35) hx hb d_T_countUnlike_31 (by decide) ?_
        exact hret H locs _ ls (nI 1) () d_T_countUnlike_35 (by unfold unlZ; rw [if_pos c15_6]; rw [if_pos c27_15]) hP hD hS
  rw [hH, hlc] at key; exact key
end
section
/-! contracts of ConicKinds: helpers (wip/spec_class.py, specs1) -/
theorem neg_i2l {n : Nat} (h : n < 2 ^ 31) : (-nI n).toInt64 = lI (-((n : Nat) : Int)) := by
  show Int64.ofInt (-nI n).toInt = _
  rw [sb_negT h]; rfl
theorem nI_range {v : Int32} {d : Nat} (h : ¬ (v.toInt < 0 ∨ (d : Int) < v.toInt)) : ∃ k, k ≤ d ∧ v = nI k := by
  refine ⟨v.toInt.toNat, by omega, ?_⟩
  have h2 := Int32.toInt_lt v
  rw [← Int32.toInt_inj, nI_toInt (by omega)]
  omega
/-- 2 above 0, 1 at 0, 0 below -/
def sgc (z : Int) : Nat := if z = 0 then 1 else if 0 < z then 2 else 0
def inB (v b : Int) : Prop := -b ≤ v ∧ v ≤ b
theorem tp_lB {B : Nat → Int} {d : Nat} {x y z dn : Int32} (h : B 0 = dn.toInt ∧ B 1 = x.toInt ∧ B 2 = y.toInt ∧ B 3 = (if d = 3 then z.toInt else 0)) : ∀ k, k < 4 → lB (B k) := by
  obtain ⟨h0, h1, h2, h3⟩ := h
  intro k hk
  match k, hk with
  | 0, _ => rw [h0]; exact lB_i _
  | 1, _ => rw [h1]; exact lB_i _
  | 2, _ => rw [h2]; exact lB_i _
  | 3, _ => rw [h3]; split; exact lB_i _; exact lB_0
theorem tp_iff {B : Nat → Int} {d : Nat} {x y z dn : Int32} (h : B 0 = dn.toInt ∧ B 1 = x.toInt ∧ B 2 = y.toInt ∧ B 3 = (if d = 3 then z.toInt else 0)) (q : ∀ k, k < 4 → inB (B k) (1000 : Nat)) : inB x.toInt 1000 ∧ inB y.toInt 1000 ∧ (d = 3 → inB z.toInt 1000) := by
  obtain ⟨h0, h1, h2, h3⟩ := h
  refine ⟨?_, ?_, fun e => ?_⟩
  · have := q 1 (by decide); rw [h1] at this; exact this
  · have := q 2 (by decide); rw [h2] at this; exact this
  · have := q 3 (by decide); rw [h3, if_pos e] at this; exact this
theorem tp_fi {B : Nat → Int} {d : Nat} {x y z dn : Int32} (h : B 0 = dn.toInt ∧ B 1 = x.toInt ∧ B 2 = y.toInt ∧ B 3 = (if d = 3 then z.toInt else 0)) (q : (1 ≤ dn.toInt ∧ dn.toInt ≤ 100) ∧ inB x.toInt 1000 ∧ inB y.toInt 1000 ∧ (d = 3 → inB z.toInt 1000)) : ∀ k, k < 4 → inB (B k) (1000 : Nat) := by
  obtain ⟨h0, h1, h2, h3⟩ := h
  obtain ⟨q0, q1, q2, q3⟩ := q
  intro k hk
  match k, hk with
  | 0, _ => rw [h0]; exact ⟨by omega, by omega⟩
  | 1, _ => rw [h1]; exact q1
  | 2, _ => rw [h2]; exact q2
  | 3, _ =>
    rw [h3]
    by_cases e : d = 3
    · rw [if_pos e]; exact q3 e
    · rw [if_neg e]; exact ⟨by omega, by omega⟩
def rowN (Fm G : Nat → Int) (i : Nat) : Nat → Int
  | 0 => 0
  | j + 1 => rowN Fm G i j + Fm (4 * i + j) * G j
def frmN (Fm L G : Nat → Int) (d : Nat) : Nat → Int
  | 0 => 0
  | i + 1 => frmN Fm L G d i + L i * rowN Fm G i (d + 1)
theorem gcd_half {u v : Nat} (h0 : 0 < v) (h : v ≤ u) : 2 * (u % v) ≤ u := by
  have h1 := Nat.div_add_mod u v
  have h2 := Nat.mod_lt u h0
  have h3 : 1 ≤ u / v := Nat.div_pos h h0
  have h4 : v * 1 ≤ v * (u / v) := Nat.mul_le_mul_left v h3
  omega
/-- Euclid's measure -/
def euI (t u v : Nat) : Prop := (t = 0 ∧ u * v < 2 ^ 80) ∨ (v ≤ u ∧ u * v * 2 ^ t < 2 ^ 81)
theorem euI_step {t u v : Nat} (h0 : 0 < v) (h : euI t u v) : euI (t + 1) v (u % v) := by
  have hm := Nat.mod_lt u h0
  have hc : v * (u % v) = (u % v) * v := Nat.mul_comm _ _
  rcases Nat.lt_or_ge u v with hlt | hge
  · rcases h with ⟨rfl, h⟩ | ⟨h, _⟩
    · refine Or.inr ⟨Nat.le_of_lt hm, ?_⟩
      rw [Nat.mod_eq_of_lt hlt, Nat.mul_comm v u, Nat.zero_add, Nat.pow_one]
      omega
    · omega
  · refine Or.inr ⟨Nat.le_of_lt hm, ?_⟩
    have h2 := gcd_half h0 hge
    have h3 : v * (2 * (u % v)) ≤ v * u := Nat.mul_le_mul_left v h2
    have h4 : v * (u % v) * 2 ^ (t + 1) = v * (2 * (u % v)) * 2 ^ t := by
      rw [Nat.pow_succ]
      simp only [Nat.mul_assoc, Nat.mul_comm, Nat.mul_left_comm]
    have h5 : v * (2 * (u % v)) * 2 ^ t ≤ v * u * 2 ^ t := Nat.mul_le_mul_right _ h3
    rw [h4]
    rw [Nat.mul_comm v u] at h5
    rcases h with ⟨rfl, h⟩ | ⟨_, h⟩
    · omega
    · exact Nat.lt_of_le_of_lt h5 h
theorem euI_end {t u v : Nat} (ht : t = 100) (h : euI t u v) : v = 0 := by
  subst ht
  rcases h with ⟨h, _⟩ | ⟨h1, h2⟩
  · exact absurd h (by decide)
  · rcases Nat.eq_zero_or_pos v with q | q
    · exact q
    · have h3 : 1 * 1 ≤ u * v := Nat.mul_le_mul (by omega) q
      omega
theorem euI_0 {a b : Nat} (ha : a < 2 ^ 40) (hb : b < 2 ^ 40) : euI 0 a b := by
  refine Or.inl ⟨rfl, ?_⟩
  have h1 : a * b ≤ (2 ^ 40 - 1) * (2 ^ 40 - 1) := Nat.mul_le_mul (by omega) (by omega)
  exact Nat.lt_of_le_of_lt h1 (by decide)
def NOZ : Int := -1000000000000000000
/-- a fraction's part in lowest terms -/
def pfr (up dn pt : Int) : Int := if dn = 0 then NOZ else (if pt = 0 then up else dn).tdiv (if dn < 0 then -((Nat.gcd up.natAbs dn.natAbs : Nat) : Int) else ((Nat.gcd up.natAbs dn.natAbs : Nat) : Int))
def gcdN (G : Nat → Int) : Nat → Nat
  | 0 => 0
  | n + 1 => Nat.gcd (gcdN G n) (G n).natAbs
def leadN (G : Nat → Int) : Nat → Int
  | 0 => 0
  | n + 1 => if leadN G n = 0 then G n else leadN G n
/-- the divisor with its sign -/
def dvN (G : Nat → Int) (n : Nat) : Int := if leadN G n < 0 then -((gcdN G n : Nat) : Int) else ((gcdN G n : Nat) : Int)
theorem gcdN_lt {G : Nat → Int} {B : Nat} (hB : 0 < B) : ∀ {n : Nat}, (∀ k, k < n → (G k).natAbs < B) → gcdN G n < B
  | 0, _ => hB
  | n + 1, h => by
    show Nat.gcd (gcdN G n) (G n).natAbs < B
    have i := gcdN_lt hB (n := n) (fun k hk => h k (by omega))
    rcases Nat.eq_zero_or_pos (gcdN G n) with q | q
    · rw [q, Nat.gcd_zero_left]; exact h n (by omega)
    · exact Nat.lt_of_le_of_lt (Nat.gcd_le_left _ q) i
theorem leadN_lt {G : Nat → Int} {B : Nat} (hB : 0 < B) : ∀ {n : Nat}, (∀ k, k < n → (G k).natAbs < B) → (leadN G n).natAbs < B
  | 0, _ => hB
  | n + 1, h => by
    have i := leadN_lt hB (n := n) (fun k hk => h k (by omega))
    show (if leadN G n = 0 then G n else leadN G n).natAbs < B
    split
    · exact h n (by omega)
    · exact i

def rm_c_noPlace : Room := { frames := 0, cells := 0, slots := 0, locals := 0 }
set_option maxHeartbeats 4000000 in
set_option maxRecDepth 100000 in
/-- no place -/
theorem c_noPlace (l : Launch) (D : va_G) (cJ : ClassId) (h : Nat) (d : Nat) (kb : Int32) (fo : Nat) (ke : Nat) (ht : Nat) (wo : Nat) (fi : Nat) (se : Nat) (v : Int32) (hd : d ≤ 3) (sz : Nat) : xMz l y_K_isNoPlace (Cond.code y_K_isNoPlace b_K_isNoPlace 2 (some .boolean) :: tW) rm_c_noPlace [.ref h, .int v] D vwC [(cJ, .long)] sz [(h, .inr (1, [.int (nI d), .int kb, .ref fo, .ref ke, .ref ht, .ref wo, .ref fi, .ref se]))] (fun (rv : Int32) (_ : Unit) => ((rv = nI 1 ∧ (v.toInt < 0 ∨ (d : Int) < v.toInt)) ∨ (rv = nI 0 ∧ ¬ (v.toInt < 0 ∨ (d : Int) < v.toInt)))) (fun (_ : Unit) => [(h, .inr (1, [.int (nI d), .int kb, .ref fo, .ref ke, .ref ht, .ref wo, .ref fi, .ref se]))]) 0 0 := by
  refine xoz (cc := b_K_isNoPlace) (maxL := 2) (by decide) rfl (Nat.le_of_ble_eq_true rfl) (fun r u h => by rcases h with h | h; exact Or.inr h.1; exact Or.inl h.1) ?_
  intro p e s m args below meth c Q A hx hb hml hts hown hN hA hS hP hK hD hret ls hl
  have hl : lv_has ls 2 [(0, .ref h), (1, .int v)] := hl
  obtain ⟨H, hH⟩ : ∃ z, z = s.heap := ⟨_, rfl⟩
  obtain ⟨locs, hlc⟩ : ∃ z : List Loc, z = [] := ⟨_, rfl⟩
  rw [← hH] at hP
  have hS : va_S A s.heap H locs := by rw [hH, hlc]; exact hS
  have key : W p l e rm_c_noPlace s m args below meth c H locs 0 0 Q (F0 m 0 ls []) := by
    refine lv_iload_n hx hb d_K_isNoPlace_0 rfl (lv_at hl 1 rfl) ?_
    refine xz_lt (tgt := 12) (X := v.toInt) hx hb rfl d_K_isNoPlace_1 (by decide) (fun c1_0 => ?_) (fun c1_0 => ?_)
    · skip
      refine lv_iconst (v := nI 1) hx hb d_K_isNoPlace_12 (by decide) ?_
      refine lv_goto (tgt := 17) hx hb d_K_isNoPlace_13 (by decide) ?_
      exact hret H locs _ ls (nI 1) () d_K_isNoPlace_17 (Or.inl ⟨rfl, (by omega)⟩) hP hD hS
    · skip
      refine lv_iload_n hx hb d_K_isNoPlace_4 rfl (lv_at hl 1 rfl) ?_
      refine lv_aload_n hx hb d_K_isNoPlace_5 rfl (lv_at hl 0 rfl) ?_
      refine va_get (D := D) (ci := 1) (v := .int (nI d)) (C := R_K) (T := F_K) (N := 8) hx hb hts iw_K hown hK hP 0 rfl rfl 0 (by decide) (hts _ tw_42) (fun _ h9 => h9) rfl d_K_isNoPlace_6 ?_
      refine xi_le (tgt := 16) (X := v.toInt) (Y := (d : Nat)) hx hb rfl (nI_toInt (by omega)) d_K_isNoPlace_9 (by decide) (fun c9_1 => ?_) (fun c9_1 => ?_)
      · skip
        refine lv_iconst (v := nI 0) hx hb d_K_isNoPlace_16 (by decide) ?_
        exact hret H locs _ ls (nI 0) () d_K_isNoPlace_17 (Or.inr ⟨rfl, (by omega)⟩) hP hD hS
      · skip
        refine lv_iconst (v := nI 1) hx hb d_K_isNoPlace_12 (by decide) ?_
        refine lv_goto (tgt := 17) hx hb d_K_isNoPlace_13 (by decide) ?_
        exact hret H locs _ ls (nI 1) () d_K_isNoPlace_17 (Or.inl ⟨rfl, (by omega)⟩) hP hD hS
  rw [hH, hlc] at key; exact key

def rm_c_noPart : Room := { frames := 0, cells := 0, slots := 0, locals := 0 }
set_option maxHeartbeats 4000000 in
set_option maxRecDepth 100000 in
/-- no part -/
theorem c_noPart (l : Launch) (D : va_G) (cJ : ClassId) (v : Int32)  (sz : Nat) : xMz l y_K_isNoPart (Cond.code y_K_isNoPart b_K_isNoPart 1 (some .boolean) :: tW) rm_c_noPart [.int v] D vwC [(cJ, .long)] sz [] (fun (rv : Int32) (_ : Unit) => ((rv = nI 1 ∧ (v.toInt ≠ 0 ∧ v.toInt ≠ 1)) ∨ (rv = nI 0 ∧ ¬ (v.toInt ≠ 0 ∧ v.toInt ≠ 1)))) (fun (_ : Unit) => []) 0 0 := by
  refine xoz (cc := b_K_isNoPart) (maxL := 1) (by decide) rfl (Nat.le_of_ble_eq_true rfl) (fun r u h => by rcases h with h | h; exact Or.inr h.1; exact Or.inl h.1) ?_
  intro p e s m args below meth c Q A hx hb hml hts hown hN hA hS hP hK hD hret ls hl
  have hl : lv_has ls 1 [(0, .int v)] := hl
  obtain ⟨H, hH⟩ : ∃ z, z = s.heap := ⟨_, rfl⟩
  obtain ⟨locs, hlc⟩ : ∃ z : List Loc, z = [] := ⟨_, rfl⟩
  rw [← hH] at hP
  have hS : va_S A s.heap H locs := by rw [hH, hlc]; exact hS
  have key : W p l e rm_c_noPart s m args below meth c H locs 0 0 Q (F0 m 0 ls []) := by
    refine lv_iload_n hx hb d_K_isNoPart_0 rfl (lv_at hl 0 rfl) ?_
    refine xz_eq (tgt := 13) (X := v.toInt) hx hb rfl d_K_isNoPart_1 (by decide) (fun c1_0 => ?_) (fun c1_0 => ?_)
    · skip
      refine lv_iconst (v := nI 0) hx hb d_K_isNoPart_13 (by decide) ?_
      exact hret H locs _ ls (nI 0) () d_K_isNoPart_14 (Or.inr ⟨rfl, (by omega)⟩) hP hD hS
    · skip
      refine lv_iload_n hx hb d_K_isNoPart_4 rfl (lv_at hl 0 rfl) ?_
      refine lv_iconst (v := nI 1) hx hb d_K_isNoPart_5 (by decide) ?_
      refine xi_eq (tgt := 13) (X := v.toInt) (Y := (1 : Nat)) hx hb rfl (nI_toInt (by omega)) d_K_isNoPart_6 (by decide) (fun c6_1 => ?_) (fun c6_1 => ?_)
      · skip
        refine lv_iconst (v := nI 0) hx hb d_K_isNoPart_13 (by decide) ?_
        exact hret H locs _ ls (nI 0) () d_K_isNoPart_14 (Or.inr ⟨rfl, (by omega)⟩) hP hD hS
      · skip
        refine lv_iconst (v := nI 1) hx hb d_K_isNoPart_9 (by decide) ?_
        refine lv_goto (tgt := 14) hx hb d_K_isNoPart_10 (by decide) ?_
        exact hret H locs _ ls (nI 1) () d_K_isNoPart_14 (Or.inl ⟨rfl, (by omega)⟩) hP hD hS
  rw [hH, hlc] at key; exact key

def rm_c_beyond : Room := { frames := 0, cells := 0, slots := 0, locals := 0 }
set_option maxHeartbeats 4000000 in
set_option maxRecDepth 100000 in
/-- beyond its bound -/
theorem c_beyond (l : Launch) (D : va_G) (cJ : ClassId) (z : Int) (mo : Nat) (hz : lB z) (hmo : mo ≤ 10000) (sz : Nat) : xMz l y_K_isBeyond (Cond.code y_K_isBeyond b_K_isBeyond 3 (some .boolean) :: tW) rm_c_beyond [.long (lI z), .int (nI mo)] D vwC [(cJ, .long)] sz [] (fun (rv : Int32) (_ : Unit) => ((rv = nI 1 ∧ (z < -(mo : Int) ∨ (mo : Int) < z)) ∨ (rv = nI 0 ∧ ¬ (z < -(mo : Int) ∨ (mo : Int) < z)))) (fun (_ : Unit) => []) 0 0 := by
  refine xoz (cc := b_K_isBeyond) (maxL := 3) (by decide) rfl (Nat.le_of_ble_eq_true rfl) (fun r u h => by rcases h with h | h; exact Or.inr h.1; exact Or.inl h.1) ?_
  intro p e s m args below meth c Q A hx hb hml hts hown hN hA hS hP hK hD hret ls hl
  have hl : lv_has ls 3 [(0, .long (lI z)), (2, .int (nI mo))] := hl
  obtain ⟨H, hH⟩ : ∃ z, z = s.heap := ⟨_, rfl⟩
  obtain ⟨locs, hlc⟩ : ∃ z : List Loc, z = [] := ⟨_, rfl⟩
  rw [← hH] at hP
  have hS : va_S A s.heap H locs := by rw [hH, hlc]; exact hS
  have key : W p l e rm_c_beyond s m args below meth c H locs 0 0 Q (F0 m 0 ls []) := by
    refine lv_lload_n hx hb d_K_isBeyond_0 rfl (lv_at hl 0 rfl) ?_
    refine lv_iload_n hx hb d_K_isBeyond_1 rfl (lv_at hl 1 rfl) ?_
    refine lv_ineg hx hb d_K_isBeyond_2 ?_
    refine lv_i2l (v := lI (-((mo : Nat) : Int))) hx hb d_K_isBeyond_3 (neg_i2l (by omega)) ?_
    refine xl_lt (tgt := 15) hx hb (by first | assumption | (unfold lB; omega)) (by first | assumption | (unfold lB; omega)) d_K_isBeyond_4 d_K_isBeyond_5 (by decide) (fun c5_0 => ?_) (fun c5_0 => ?_)
    · skip
      refine lv_iconst (v := nI 1) hx hb d_K_isBeyond_15 (by decide) ?_
      refine lv_goto (tgt := 20) hx hb d_K_isBeyond_16 (by decide) ?_
      exact hret H locs _ ls (nI 1) () d_K_isBeyond_20 (Or.inl ⟨rfl, (by omega)⟩) hP hD hS
    · skip
      refine lv_lload_n hx hb d_K_isBeyond_8 rfl (lv_at hl 0 rfl) ?_
      refine lv_iload_n hx hb d_K_isBeyond_9 rfl (lv_at hl 1 rfl) ?_
      refine xn_i2l hx hb (by omega) d_K_isBeyond_10 ?_
      refine xl_le (tgt := 19) hx hb (by first | assumption | (unfold lB; omega)) (by first | assumption | (unfold lB; omega)) d_K_isBeyond_11 d_K_isBeyond_12 (by decide) (fun c12_1 => ?_) (fun c12_1 => ?_)
      · skip
        refine lv_iconst (v := nI 0) hx hb d_K_isBeyond_19 (by decide) ?_
        exact hret H locs _ ls (nI 0) () d_K_isBeyond_20 (Or.inr ⟨rfl, (by omega)⟩) hP hD hS
      · skip
        refine lv_iconst (v := nI 1) hx hb d_K_isBeyond_15 (by decide) ?_
        refine lv_goto (tgt := 20) hx hb d_K_isBeyond_16 (by decide) ?_
        exact hret H locs _ ls (nI 1) () d_K_isBeyond_20 (Or.inl ⟨rfl, (by omega)⟩) hP hD hS
  rw [hH, hlc] at key; exact key

def rm_c_sign : Room := { frames := 0, cells := 0, slots := 0, locals := 0 }
set_option maxHeartbeats 4000000 in
set_option maxRecDepth 100000 in
/-- the sign, told -/
theorem c_sign (l : Launch) (D : va_G) (cJ : ClassId) (z : Int) (hz : lB z) (sz : Nat) : xMi l y_K_signCode (Cond.code y_K_signCode b_K_signCode 2 (some .int) :: tW) rm_c_sign [.long (lI z)] D vwC [(cJ, .long)] sz [] (fun (rv : Int32) (_ : Unit) => rv = nI (sgc z)) (fun (_ : Unit) => []) 0 0 := by
  refine xoi (cc := b_K_signCode) (maxL := 2) (by decide) rfl (Nat.le_of_ble_eq_true rfl) ?_
  intro p e s m args below meth c Q A hx hb hml hts hown hN hA hS hP hK hD hret ls hl
  have hl : lv_has ls 2 [(0, .long (lI z))] := hl
  obtain ⟨H, hH⟩ : ∃ z, z = s.heap := ⟨_, rfl⟩
  obtain ⟨locs, hlc⟩ : ∃ z : List Loc, z = [] := ⟨_, rfl⟩
  rw [← hH] at hP
  have hS : va_S A s.heap H locs := by rw [hH, hlc]; exact hS
  have key : W p l e rm_c_sign s m args below meth c H locs 0 0 Q (F0 m 0 ls []) := by
    refine lv_lload_n hx hb d_K_signCode_0 rfl (lv_at hl 0 rfl) ?_
    refine lv_lconst (v := lI 0) hx hb d_K_signCode_1 (by decide) ?_
    refine xl_ne (tgt := 8) hx hb (by first | assumption | (unfold lB; omega)) ⟨by decide, by decide⟩ d_K_signCode_2 d_K_signCode_3 (by decide) (fun c3_0 => ?_) (fun c3_0 => ?_)
    · skip
      refine lv_lload_n hx hb d_K_signCode_8 rfl (lv_at hl 0 rfl) ?_
      refine lv_lconst (v := lI 0) hx hb d_K_signCode_9 (by decide) ?_
      refine xl_le (tgt := 18) hx hb (by first | assumption | (unfold lB; omega)) ⟨by decide, by decide⟩ d_K_signCode_10 d_K_signCode_11 (by decide) (fun c11_1 => ?_) (fun c11_1 => ?_)
      · skip
        refine lv_iconst (v := nI 0) hx hb d_K_signCode_18 (by decide) ?_
        exact hret H locs _ ls (nI 0) () d_K_signCode_19 (by unfold sgc; split <;> (try split) <;> first | rfl | omega) hP hD hS
      · skip
        refine lv_iconst (v := nI 2) hx hb d_K_signCode_14 (by decide) ?_
        refine lv_goto (tgt := 19) hx hb d_K_signCode_15 (by decide) ?_
        exact hret H locs _ ls (nI 2) () d_K_signCode_19 (by unfold sgc; split <;> (try split) <;> first | rfl | omega) hP hD hS
    · skip
      refine lv_iconst (v := nI 1) hx hb d_K_signCode_6 (by decide) ?_
      exact hret H locs _ ls (nI 1) () d_K_signCode_7 (by unfold sgc; split <;> (try split) <;> first | rfl | omega) hP hD hS
  rw [hH, hlc] at key; exact key

def rm_c_setRow : Room := { frames := 0, cells := 0, slots := 0, locals := 0 }
set_option maxHeartbeats 4000000 in
set_option maxRecDepth 100000 in
/-- a row of four -/
theorem c_setRow (l : Launch) (D : va_G) (cJ : ClassId) (h : Nat) (d : Nat) (kb : Int32) (fo : Nat) (ke : Nat) (ht : Nat) (wo : Nat) (fi : Nat) (se : Nat) (a : Nat) (G : Nat → Int) (v0 : Int) (v1 : Int) (v2 : Int) (v3 : Int) (hd : d ≤ 3) (sz : Nat) : xMv l y_K_setRow (Cond.code y_K_setRow b_K_setRow 10 none :: tW) rm_c_setRow [.ref h, .ref a, .long (lI v0), .long (lI v1), .long (lI v2), .long (lI v3)] D vwC [(cJ, .long)] sz [(h, .inr (1, [.int (nI d), .int kb, .ref fo, .ref ke, .ref ht, .ref wo, .ref fi, .ref se])), (a, LA cJ 4 G)] (fun (uo : (Nat → Int)) => uo 0 = v0 ∧ uo 1 = v1 ∧ uo 2 = v2 ∧ uo 3 = (if d = 3 then v3 else 0)) (fun (uo : (Nat → Int)) => [(h, .inr (1, [.int (nI d), .int kb, .ref fo, .ref ke, .ref ht, .ref wo, .ref fi, .ref se])), (a, LA cJ 4 uo)]) 0 0 := by
  refine xov (cc := b_K_setRow) (maxL := 10) (by decide) rfl (Nat.le_of_ble_eq_true rfl) ?_
  intro p e s m args below meth c Q A hx hb hml hts hown hN hA hS hP hK hD hret ls hl
  have hl : lv_has ls 10 [(0, .ref h), (1, .ref a), (2, .long (lI v0)), (4, .long (lI v1)), (6, .long (lI v2)), (8, .long (lI v3))] := hl
  obtain ⟨H, hH⟩ : ∃ z, z = s.heap := ⟨_, rfl⟩
  obtain ⟨locs, hlc⟩ : ∃ z : List Loc, z = [] := ⟨_, rfl⟩
  rw [← hH] at hP
  have hS : va_S A s.heap H locs := by rw [hH, hlc]; exact hS
  have key : W p l e rm_c_setRow s m args below meth c H locs 0 0 Q (F0 m 0 ls []) := by
    refine lv_aload_n hx hb d_K_setRow_0 rfl (lv_at hl 1 rfl) ?_
    refine lv_iconst (v := nI 0) hx hb d_K_setRow_1 (by decide) ?_
    refine lv_lload_n hx hb d_K_setRow_2 rfl (lv_at hl 2 rfl) ?_
    refine xl_ast hx hb hK hP hD hS 1 0 rfl rfl (k := 0) (by omega) (by first | decide | omega) d_K_setRow_3 (fun H locs hP hD hS => ?_)
    have hP : va_P D vwC [(h, .inr (1, [.int (nI d), .int kb, .ref fo, .ref ke, .ref ht, .ref wo, .ref fi, .ref se])), (a, LA cJ 4 (upZ G 0 v0))] H := hP
    have hD : va_D A [(h, .inr (1, [.int (nI d), .int kb, .ref fo, .ref ke, .ref ht, .ref wo, .ref fi, .ref se])), (a, LA cJ 4 (upZ G 0 v0))] := hD
    refine lv_aload_n hx hb d_K_setRow_4 rfl (lv_at hl 1 rfl) ?_
    refine lv_iconst (v := nI 1) hx hb d_K_setRow_5 (by decide) ?_
    refine lv_lload hx hb d_K_setRow_6 (lv_at hl 3 rfl) ?_
    refine xl_ast hx hb hK hP hD hS 1 0 rfl rfl (k := 1) (by omega) (by first | decide | omega) d_K_setRow_8 (fun H locs hP hD hS => ?_)
    have hP : va_P D vwC [(h, .inr (1, [.int (nI d), .int kb, .ref fo, .ref ke, .ref ht, .ref wo, .ref fi, .ref se])), (a, LA cJ 4 (upZ (upZ G 0 v0) 1 v1))] H := hP
    have hD : va_D A [(h, .inr (1, [.int (nI d), .int kb, .ref fo, .ref ke, .ref ht, .ref wo, .ref fi, .ref se])), (a, LA cJ 4 (upZ (upZ G 0 v0) 1 v1))] := hD
    refine lv_aload_n hx hb d_K_setRow_9 rfl (lv_at hl 1 rfl) ?_
    refine lv_iconst (v := nI 2) hx hb d_K_setRow_10 (by decide) ?_
    refine lv_lload hx hb d_K_setRow_11 (lv_at hl 4 rfl) ?_
    refine xl_ast hx hb hK hP hD hS 1 0 rfl rfl (k := 2) (by omega) (by first | decide | omega) d_K_setRow_13 (fun H locs hP hD hS => ?_)
    have hP : va_P D vwC [(h, .inr (1, [.int (nI d), .int kb, .ref fo, .ref ke, .ref ht, .ref wo, .ref fi, .ref se])), (a, LA cJ 4 (upZ (upZ (upZ G 0 v0) 1 v1) 2 v2))] H := hP
    have hD : va_D A [(h, .inr (1, [.int (nI d), .int kb, .ref fo, .ref ke, .ref ht, .ref wo, .ref fi, .ref se])), (a, LA cJ 4 (upZ (upZ (upZ G 0 v0) 1 v1) 2 v2))] := hD
    refine lv_aload_n hx hb d_K_setRow_14 rfl (lv_at hl 1 rfl) ?_
    refine lv_iconst (v := nI 3) hx hb d_K_setRow_15 (by decide) ?_
    refine lv_aload_n hx hb d_K_setRow_16 rfl (lv_at hl 0 rfl) ?_
    refine va_get (D := D) (ci := 1) (v := .int (nI d)) (C := R_K) (T := F_K) (N := 8) hx hb hts iw_K hown hK hP 0 rfl rfl 0 (by decide) (hts _ tw_42) (fun _ h9 => h9) rfl d_K_setRow_17 ?_
    refine lv_iconst (v := nI 3) hx hb d_K_setRow_20 (by decide) ?_
    refine xn_ne (tgt := 29) hx hb (by omega) (by omega) d_K_setRow_21 (by decide) (fun c21_0 => ?_) (fun c21_0 => ?_)
    · skip
      refine lv_lconst (v := lI 0) hx hb d_K_setRow_29 (by decide) ?_
      refine xl_ast hx hb hK hP hD hS 1 0 rfl rfl (k := 3) (by omega) (by first | decide | omega) d_K_setRow_30 (fun H locs hP hD hS => ?_)
      have hP : va_P D vwC [(h, .inr (1, [.int (nI d), .int kb, .ref fo, .ref ke, .ref ht, .ref wo, .ref fi, .ref se])), (a, LA cJ 4 (upZ (upZ (upZ (upZ G 0 v0) 1 v1) 2 v2) 3 0))] H := hP
      have hD : va_D A [(h, .inr (1, [.int (nI d), .int kb, .ref fo, .ref ke, .ref ht, .ref wo, .ref fi, .ref se])), (a, LA cJ 4 (upZ (upZ (upZ (upZ G 0 v0) 1 v1) 2 v2) 3 0))] := hD
      exact hret H locs _ ls (upZ (upZ (upZ (upZ G 0 v0) 1 v1) 2 v2) 3 0) d_K_setRow_31 ⟨rfl, rfl, rfl, (if_neg c21_0).symm⟩ hP hD hS
    · skip
      refine lv_lload hx hb d_K_setRow_24 (lv_at hl 5 rfl) ?_
      refine lv_goto (tgt := 30) hx hb d_K_setRow_26 (by decide) ?_
      refine xl_ast hx hb hK hP hD hS 1 0 rfl rfl (k := 3) (by omega) (by first | decide | omega) d_K_setRow_30 (fun H locs hP hD hS => ?_)
      have hP : va_P D vwC [(h, .inr (1, [.int (nI d), .int kb, .ref fo, .ref ke, .ref ht, .ref wo, .ref fi, .ref se])), (a, LA cJ 4 (upZ (upZ (upZ (upZ G 0 v0) 1 v1) 2 v2) 3 v3))] H := hP
      have hD : va_D A [(h, .inr (1, [.int (nI d), .int kb, .ref fo, .ref ke, .ref ht, .ref wo, .ref fi, .ref se])), (a, LA cJ 4 (upZ (upZ (upZ (upZ G 0 v0) 1 v1) 2 v2) 3 v3))] := hD
      exact hret H locs _ ls (upZ (upZ (upZ (upZ G 0 v0) 1 v1) 2 v2) 3 v3) d_K_setRow_31 ⟨rfl, rfl, rfl, (if_pos c21_0).symm⟩ hP hD hS
  rw [hH, hlc] at key; exact key

def rm_c_rowBeyond : Room := { frames := 1, cells := 0, slots := 0, locals := 22 }
set_option maxHeartbeats 4000000 in
set_option maxRecDepth 100000 in
/-- one of a row beyond -/
theorem c_rowBeyond (l : Launch) (D : va_G) (cJ : ClassId) (a : Nat) (G : Nat → Int) (mo : Nat) (hG : ∀ k, k < 4 → lB (G k)) (hmo : mo ≤ 10000) (sz : Nat) : xMz l y_K_isRowBeyond (Cond.code y_K_isRowBeyond b_K_isRowBeyond 3 (some .boolean) :: tW) rm_c_rowBeyond [.ref a, .int (nI mo)] D vwC [(cJ, .long)] sz [(a, LA cJ 4 G)] (fun (rv : Int32) (_ : Unit) => ((rv = nI 1 ∧ (¬ ∀ k, k < 4 → inB (G k) mo)) ∨ (rv = nI 0 ∧ ¬ (¬ ∀ k, k < 4 → inB (G k) mo)))) (fun (_ : Unit) => [(a, LA cJ 4 G)]) 0 0 := by
  refine xoz (cc := b_K_isRowBeyond) (maxL := 3) (by decide) rfl (Nat.le_of_ble_eq_true rfl) (fun r u h => by rcases h with h | h; exact Or.inr h.1; exact Or.inl h.1) ?_
  intro p e s m args below meth c Q A hx hb hml hts hown hN hA hS hP hK hD hret ls hl
  have hl : lv_has ls 3 [(0, .ref a), (1, .int (nI mo))] := hl
  obtain ⟨H, hH⟩ : ∃ z, z = s.heap := ⟨_, rfl⟩
  obtain ⟨locs, hlc⟩ : ∃ z : List Loc, z = [] := ⟨_, rfl⟩
  rw [← hH] at hP
  have hS : va_S A s.heap H locs := by rw [hH, hlc]; exact hS
  have key : W p l e rm_c_rowBeyond s m args below meth c H locs 0 0 Q (F0 m 0 ls []) := by
    refine lv_iconst (v := nI 0) hx hb d_K_isRowBeyond_0 (by decide) ?_
    refine lv_istore_n (lv' := [(2, .int (nI 0)), (0, .ref a), (1, .int (nI mo))]) hx hb d_K_isRowBeyond_1 rfl hl (by decide) rfl (fun ls hl => ?_)
    have lp_2 : ∀ (n_2 : Nat) (i : Nat) (H : Heap) (locs : List Loc) (ls : Array Slot), (i ≤ 4) → (∀ k, k < i → inB (G k) mo) → (4 - i) < n_2 → va_P D vwC [(a, LA cJ 4 G)] H → va_D A [(a, LA cJ 4 G)] → va_S A s.heap H locs → lv_has ls 3 [(0, .ref a), (1, .int (nI mo)), (2, .int (nI i))] → W p l e rm_c_rowBeyond s m args below meth c H locs 0 0 Q (F0 m 2 ls []) := by
      intro n_2
      induction n_2 with
      | zero => intro i H locs ls hi h1 hn_2; exact absurd hn_2 (Nat.not_lt_zero _)
      | succ n_2 ih_2 =>
        intro i H locs ls hi h1 hn_2 hP hD hS hl
        refine lv_iload_n hx hb d_K_isRowBeyond_2 rfl (lv_at hl 2 rfl) ?_
        refine lv_iconst (v := nI 4) hx hb d_K_isRowBeyond_3 (by decide) ?_
        refine xn_ge (tgt := 25) hx hb (by omega) (by omega) d_K_isRowBeyond_4 (by decide) (fun c4_0 => ?_) (fun c4_0 => ?_)
        · skip
          refine lv_iconst (v := nI 0) hx hb d_K_isRowBeyond_25 (by decide) ?_
          exact hret H locs _ ls (nI 0) () d_K_isRowBeyond_26 (Or.inr ⟨rfl, (fun q => q (fun k hk => h1 k (by omega)))⟩) hP hD hS
        · skip
          refine lv_aload_n hx hb d_K_isRowBeyond_7 rfl (lv_at hl 0 rfl) ?_
          refine lv_iload_n hx hb d_K_isRowBeyond_8 rfl (lv_at hl 2 rfl) ?_
          refine xl_ald hx hb hK hP 0 0 rfl rfl (k := i) (by omega) (by first | decide | omega) d_K_isRowBeyond_9 ?_
          refine lv_iload_n hx hb d_K_isRowBeyond_10 rfl (lv_at hl 1 rfl) ?_
          refine xci (wc := []) (wr := [(a, LA cJ 4 G)]) hP hD hS hA [] [0] rfl rfl (by decide) (by decide) (va_runS (As := [.long (lI (G i)), .int (nI mo)]) (rest := []) ⟨hx, hb, hml, hown, hts⟩ (c_beyond l D cJ (G i) mo (hG i (by omega)) (by first | assumption | omega) H.size) (cwS 2 hts (gS tw_82 tw_83 tw_1 tw_84) rfl rfl rfl ⟨rfl, hd_K_isBeyond⟩ ⟨Nat.le_of_ble_eq_true rfl, Nat.le_of_ble_eq_true rfl⟩) (xPreS hN hK (hP.sub (ws' := []) [] rfl) (hD.sub (ws' := []) [] (by decide) rfl)) rfl rfl hl.1 rfl (lv_room (Nat.le_of_ble_eq_true rfl)) d_K_isRowBeyond_11 ⟨Nat.le_of_ble_eq_true rfl, Nat.le_of_ble_eq_true rfl⟩) (fun r_2 u_3 H locs hw_4 hP hD hS => ?_)
          try dsimp only at hw_4
          have hP : va_P D vwC [(a, LA cJ 4 G)] H := hP
          have hD : va_D A [(a, LA cJ 4 G)] := hD
          rcases hw_4 with ⟨rfl, hw_4⟩ | ⟨rfl, hw_4⟩
          · skip
            refine xz_eq (tgt := 19) (X := (1 : Nat)) hx hb (nI_toInt (by omega)) d_K_isRowBeyond_14 (by decide) (fun c14_4 => absurd c14_4 (by omega)) (fun c14_4 => ?_)
            refine lv_iconst (v := nI 1) hx hb d_K_isRowBeyond_17 (by decide) ?_
            exact hret H locs _ ls (nI 1) () d_K_isRowBeyond_18 (Or.inl ⟨rfl, (fun q => by have := q i (by omega); unfold inB at this; omega)⟩) hP hD hS
          · skip
            refine xz_eq (tgt := 19) (X := (0 : Nat)) hx hb (nI_toInt (by omega)) d_K_isRowBeyond_14 (by decide) (fun c14_5 => ?_) (fun c14_5 => absurd c14_5 (by omega))
            refine lv_iinc (v := nI (i + 1)) (lv' := [(2, .int (nI (i + 1))), (0, .ref a), (1, .int (nI mo))]) hx hb d_K_isRowBeyond_19 hl (k := 2) rfl (nI_add _ _) (by decide) rfl (fun ls hl => ?_)
            refine lv_goto (tgt := 2) hx hb d_K_isRowBeyond_22 (by decide) ?_
            exact ih_2 (i + 1) H locs ls (by omega) (fun k hk => by by_cases q : k = i; rw [q]; exact ⟨by omega, by omega⟩; exact h1 k (by omega)) (by omega) hP hD hS (lv_sub hl [1, 2, 0] rfl)
    exact lp_2 ((4 - 0) + 1) 0 H locs ls (Nat.zero_le _) (fun k h => absurd h (Nat.not_lt_zero _)) (by omega) hP hD hS (lv_sub hl [1, 2, 0] rfl)
  rw [hH, hlc] at key; exact key

def rm_c_allZero : Room := { frames := 0, cells := 0, slots := 0, locals := 0 }
set_option maxHeartbeats 4000000 in
set_option maxRecDepth 100000 in
/-- a row of zeros -/
theorem c_allZero (l : Launch) (D : va_G) (cJ : ClassId) (a : Nat) (G : Nat → Int) (f : Nat) (t : Nat) (hG : ∀ k, k < 4 → lB (G k)) (hf : f ≤ t + 1) (ht : t ≤ 3) (sz : Nat) : xMz l y_K_isAllZero (Cond.code y_K_isAllZero b_K_isAllZero 4 (some .boolean) :: tW) rm_c_allZero [.ref a, .int (nI f), .int (nI t)] D vwC [(cJ, .long)] sz [(a, LA cJ 4 G)] (fun (rv : Int32) (_ : Unit) => ((rv = nI 1 ∧ (∀ k, f ≤ k → k ≤ t → G k = 0)) ∨ (rv = nI 0 ∧ ¬ (∀ k, f ≤ k → k ≤ t → G k = 0)))) (fun (_ : Unit) => [(a, LA cJ 4 G)]) 0 0 := by
  refine xoz (cc := b_K_isAllZero) (maxL := 4) (by decide) rfl (Nat.le_of_ble_eq_true rfl) (fun r u h => by rcases h with h | h; exact Or.inr h.1; exact Or.inl h.1) ?_
  intro p e s m args below meth c Q A hx hb hml hts hown hN hA hS hP hK hD hret ls hl
  have hl : lv_has ls 4 [(0, .ref a), (1, .int (nI f)), (2, .int (nI t))] := hl
  obtain ⟨H, hH⟩ : ∃ z, z = s.heap := ⟨_, rfl⟩
  obtain ⟨locs, hlc⟩ : ∃ z : List Loc, z = [] := ⟨_, rfl⟩
  rw [← hH] at hP
  have hS : va_S A s.heap H locs := by rw [hH, hlc]; exact hS
  have key : W p l e rm_c_allZero s m args below meth c H locs 0 0 Q (F0 m 0 ls []) := by
    refine lv_iload_n hx hb d_K_isAllZero_0 rfl (lv_at hl 1 rfl) ?_
    refine lv_istore_n (lv' := [(3, .int (nI f)), (0, .ref a), (1, .int (nI f)), (2, .int (nI t))]) hx hb d_K_isAllZero_1 rfl hl (by decide) rfl (fun ls hl => ?_)
    have lp_2 : ∀ (n_2 : Nat) (i : Nat) (H : Heap) (locs : List Loc) (ls : Array Slot), (f ≤ i) → (i ≤ t + 1) → (∀ k, f ≤ k → k < i → G k = 0) → (t + 1 - i) < n_2 → va_P D vwC [(a, LA cJ 4 G)] H → va_D A [(a, LA cJ 4 G)] → va_S A s.heap H locs → lv_has ls 4 [(0, .ref a), (1, .int (nI f)), (2, .int (nI t)), (3, .int (nI i))] → W p l e rm_c_allZero s m args below meth c H locs 0 0 Q (F0 m 2 ls []) := by
      intro n_2
      induction n_2 with
      | zero => intro i H locs ls hi hi2 h1 hn_2; exact absurd hn_2 (Nat.not_lt_zero _)
      | succ n_2 ih_2 =>
        intro i H locs ls hi hi2 h1 hn_2 hP hD hS hl
        refine lv_iload_n hx hb d_K_isAllZero_2 rfl (lv_at hl 3 rfl) ?_
        refine lv_iload_n hx hb d_K_isAllZero_3 rfl (lv_at hl 2 rfl) ?_
        refine xn_gt (tgt := 23) hx hb (by omega) (by omega) d_K_isAllZero_4 (by decide) (fun c4_0 => ?_) (fun c4_0 => ?_)
        · skip
          refine lv_iconst (v := nI 1) hx hb d_K_isAllZero_23 (by decide) ?_
          exact hret H locs _ ls (nI 1) () d_K_isAllZero_24 (Or.inl ⟨rfl, (fun k h hk => h1 k h (by omega))⟩) hP hD hS
        · skip
          refine lv_aload_n hx hb d_K_isAllZero_7 rfl (lv_at hl 0 rfl) ?_
          refine lv_iload_n hx hb d_K_isAllZero_8 rfl (lv_at hl 3 rfl) ?_
          refine xl_ald hx hb hK hP 0 0 rfl rfl (k := i) (by omega) (by first | decide | omega) d_K_isAllZero_9 ?_
          refine lv_lconst (v := lI 0) hx hb d_K_isAllZero_10 (by decide) ?_
          refine xl_eq (tgt := 17) hx hb (hG i (by omega)) ⟨by decide, by decide⟩ d_K_isAllZero_11 d_K_isAllZero_12 (by decide) (fun c12_1 => ?_) (fun c12_1 => ?_)
          · skip
            refine lv_iinc (v := nI (i + 1)) (lv' := [(3, .int (nI (i + 1))), (0, .ref a), (1, .int (nI f)), (2, .int (nI t))]) hx hb d_K_isAllZero_17 hl (k := 3) rfl (nI_add _ _) (by decide) rfl (fun ls hl => ?_)
            refine lv_goto (tgt := 2) hx hb d_K_isAllZero_20 (by decide) ?_
            exact ih_2 (i + 1) H locs ls (by omega) (by omega) (fun k h hk => by by_cases q : k = i; rw [q]; assumption; exact h1 k h (by omega)) (by omega) hP hD hS (lv_sub hl [1, 2, 3, 0] rfl)
          · skip
            refine lv_iconst (v := nI 0) hx hb d_K_isAllZero_15 (by decide) ?_
            exact hret H locs _ ls (nI 0) () d_K_isAllZero_16 (Or.inr ⟨rfl, (fun q => c12_1 (q i hi (by omega)))⟩) hP hD hS
    exact lp_2 ((t + 1 - f) + 1) f H locs ls (Nat.le_refl _) hf (fun k h h2 => absurd h2 (by omega)) (by omega) hP hD hS (lv_sub hl [1, 2, 3, 0] rfl)
  rw [hH, hlc] at key; exact key

def rm_c_takePoint : Room := { frames := 2, cells := 0, slots := 0, locals := 44 }
set_option maxHeartbeats 4000000 in
set_option maxRecDepth 100000 in
/-- a point, into first -/
theorem c_takePoint (l : Launch) (D : va_G) (cJ : ClassId) (h : Nat) (d : Nat) (kb : Int32) (fo : Nat) (ke : Nat) (ht : Nat) (wo : Nat) (fi : Nat) (se : Nat) (A1 : Nat → Int) (x : Int32) (y : Int32) (z : Int32) (dn : Int32) (hd : d ≤ 3) (sz : Nat) : xMz l y_K_takePoint (Cond.code y_K_takePoint b_K_takePoint 5 (some .boolean) :: tW) rm_c_takePoint [.ref h, .int x, .int y, .int z, .int dn] D vwC [(cJ, .long)] sz [(h, .inr (1, [.int (nI d), .int kb, .ref fo, .ref ke, .ref ht, .ref wo, .ref fi, .ref se])), (fi, LA cJ 4 A1)] (fun (rv : Int32) (uo : (Nat → Int)) => ((rv = nI 1 ∧ ((1 ≤ dn.toInt ∧ dn.toInt ≤ 100) ∧ inB x.toInt 1000 ∧ inB y.toInt 1000 ∧ (d = 3 → inB z.toInt 1000))) ∨ (rv = nI 0 ∧ ¬ ((1 ≤ dn.toInt ∧ dn.toInt ≤ 100) ∧ inB x.toInt 1000 ∧ inB y.toInt 1000 ∧ (d = 3 → inB z.toInt 1000)))) ∧ (((1 ≤ dn.toInt ∧ dn.toInt ≤ 100) ∧ inB x.toInt 1000 ∧ inB y.toInt 1000 ∧ (d = 3 → inB z.toInt 1000)) → uo 0 = dn.toInt ∧ uo 1 = x.toInt ∧ uo 2 = y.toInt ∧ uo 3 = (if d = 3 then z.toInt else 0))) (fun (uo : (Nat → Int)) => [(h, .inr (1, [.int (nI d), .int kb, .ref fo, .ref ke, .ref ht, .ref wo, .ref fi, .ref se])), (fi, LA cJ 4 uo)]) 0 0 := by
  refine xoz (cc := b_K_takePoint) (maxL := 5) (by decide) rfl (Nat.le_of_ble_eq_true rfl) (fun r u h => by rcases h.1 with h | h; exact Or.inr h.1; exact Or.inl h.1) ?_
  intro p e s m args below meth c Q A hx hb hml hts hown hN hA hS hP hK hD hret ls hl
  have hl : lv_has ls 5 [(0, .ref h), (1, .int x), (2, .int y), (3, .int z), (4, .int dn)] := hl
  obtain ⟨H, hH⟩ : ∃ z, z = s.heap := ⟨_, rfl⟩
  obtain ⟨locs, hlc⟩ : ∃ z : List Loc, z = [] := ⟨_, rfl⟩
  rw [← hH] at hP
  have hS : va_S A s.heap H locs := by rw [hH, hlc]; exact hS
  have key : W p l e rm_c_takePoint s m args below meth c H locs 0 0 Q (F0 m 0 ls []) := by
    refine lv_iload hx hb d_K_takePoint_0 (lv_at hl 4 rfl) ?_
    refine lv_iconst (v := nI 1) hx hb d_K_takePoint_2 (by decide) ?_
    refine xi_lt (tgt := 13) (X := dn.toInt) (Y := (1 : Nat)) hx hb rfl (nI_toInt (by omega)) d_K_takePoint_3 (by decide) (fun c3_0 => ?_) (fun c3_0 => ?_)
    · skip
      refine lv_iconst (v := nI 0) hx hb d_K_takePoint_13 (by decide) ?_
      exact hret H locs _ ls (nI 0) A1 d_K_takePoint_14 ⟨Or.inr ⟨rfl, by omega⟩, fun q => absurd q.1 (by omega)⟩ hP hD hS
    · skip
      refine lv_iload hx hb d_K_takePoint_6 (lv_at hl 4 rfl) ?_
      refine lv_bipush (v := nI 100) hx hb d_K_takePoint_8 (by decide) ?_
      refine xi_le (tgt := 15) (X := dn.toInt) (Y := (100 : Nat)) hx hb rfl (nI_toInt (by omega)) d_K_takePoint_10 (by decide) (fun c10_1 => ?_) (fun c10_1 => ?_)
      · skip
        refine lv_aload_n hx hb d_K_takePoint_15 rfl (lv_at hl 0 rfl) ?_
        refine lv_aload_n hx hb d_K_takePoint_16 rfl (lv_at hl 0 rfl) ?_
        refine va_get (D := D) (ci := 1) (v := .ref fi) (C := R_K) (T := F_K) (N := 8) hx hb hts iw_K hown hK hP 0 rfl rfl 6 (by decide) (hts _ tw_48) (fun _ h9 => h9) rfl d_K_takePoint_17 ?_
        refine lv_iload hx hb d_K_takePoint_20 (lv_at hl 4 rfl) ?_
        refine lv_i2l (v := lI dn.toInt) hx hb d_K_takePoint_22 rfl ?_
        refine lv_iload_n hx hb d_K_takePoint_23 rfl (lv_at hl 1 rfl) ?_
        refine lv_i2l (v := lI x.toInt) hx hb d_K_takePoint_24 rfl ?_
        refine lv_iload_n hx hb d_K_takePoint_25 rfl (lv_at hl 2 rfl) ?_
        refine lv_i2l (v := lI y.toInt) hx hb d_K_takePoint_26 rfl ?_
        refine lv_iload_n hx hb d_K_takePoint_27 rfl (lv_at hl 3 rfl) ?_
        refine lv_i2l (v := lI z.toInt) hx hb d_K_takePoint_28 rfl ?_
        refine xcv (wc := [(h, .inr (1, [.int (nI d), .int kb, .ref fo, .ref ke, .ref ht, .ref wo, .ref fi, .ref se])), (fi, LA cJ 4 A1)]) (wr := []) hP hD hS hA [0, 1] [] rfl rfl (by decide) (by decide) (va_runV (As := [.ref fi, .long (lI dn.toInt), .long (lI x.toInt), .long (lI y.toInt), .long (lI z.toInt)]) (rest := []) ⟨hx, hb, hml, hown, hts⟩ (c_setRow l D cJ h d kb fo ke ht wo fi se fi A1 dn.toInt x.toInt y.toInt z.toInt (by first | assumption | omega) H.size) (cwV 5 hts (gV tw_215 tw_217 tws_6 tw_1 tw_218) rfl rfl rfl ⟨rfl, hd_K_setRow⟩ ⟨Nat.le_of_ble_eq_true rfl, Nat.le_of_ble_eq_true rfl⟩) (xPreV (C := R_K) (T := F_K) (N := 8) (q0 := 0) hN hK (hP.sub (ws' := [(h, .inr (1, [.int (nI d), .int kb, .ref fo, .ref ke, .ref ht, .ref wo, .ref fi, .ref se])), (fi, LA cJ 4 A1)]) [0, 1] rfl) (hD.sub (ws' := [(h, .inr (1, [.int (nI d), .int kb, .ref fo, .ref ke, .ref ht, .ref wo, .ref fi, .ref se])), (fi, LA cJ 4 A1)]) [0, 1] (by decide) rfl) rfl rfl) rfl rfl hl.1 rfl (lv_room (Nat.le_of_ble_eq_true rfl)) d_K_takePoint_29 ⟨Nat.le_of_ble_eq_true rfl, Nat.le_of_ble_eq_true rfl⟩) (fun u_4 H locs hrow hP hD hS => ?_)
        obtain ⟨B5, rfl⟩ : ∃ z, z = u_4 := ⟨_, rfl⟩
        try dsimp only at hrow
        have hP : va_P D vwC [(h, .inr (1, [.int (nI d), .int kb, .ref fo, .ref ke, .ref ht, .ref wo, .ref fi, .ref se])), (fi, LA cJ 4 B5)] H := hP
        have hD : va_D A [(h, .inr (1, [.int (nI d), .int kb, .ref fo, .ref ke, .ref ht, .ref wo, .ref fi, .ref se])), (fi, LA cJ 4 B5)] := hD
        refine lv_aload_n hx hb d_K_takePoint_32 rfl (lv_at hl 0 rfl) ?_
        refine va_get (D := D) (ci := 1) (v := .ref fi) (C := R_K) (T := F_K) (N := 8) hx hb hts iw_K hown hK hP 0 rfl rfl 6 (by decide) (hts _ tw_48) (fun _ h9 => h9) rfl d_K_takePoint_33 ?_
        refine lv_sipush (v := nI 1000) hx hb d_K_takePoint_36 (by decide) ?_
        refine xci (wc := [(fi, LA cJ 4 B5)]) (wr := [(h, .inr (1, [.int (nI d), .int kb, .ref fo, .ref ke, .ref ht, .ref wo, .ref fi, .ref se]))]) hP hD hS hA [1] [0] rfl rfl (by decide) (by decide) (va_runS (As := [.ref fi, .int (nI 1000)]) (rest := []) ⟨hx, hb, hml, hown, hts⟩ (c_rowBeyond l D cJ fi B5 1000 (tp_lB hrow) (by first | assumption | omega) H.size) (cwS 2 hts (gS tw_219 tw_220 tw_1 tw_221) rfl rfl rfl ⟨rfl, hd_K_isRowBeyond⟩ ⟨Nat.le_of_ble_eq_true rfl, Nat.le_of_ble_eq_true rfl⟩) (xPreS hN hK (hP.sub (ws' := [(fi, LA cJ 4 B5)]) [1] rfl) (hD.sub (ws' := [(fi, LA cJ 4 B5)]) [1] (by decide) rfl)) rfl rfl hl.1 rfl (lv_room (Nat.le_of_ble_eq_true rfl)) d_K_takePoint_39 ⟨Nat.le_of_ble_eq_true rfl, Nat.le_of_ble_eq_true rfl⟩) (fun r_5 u_6 H locs hbey hP hD hS => ?_)
        try dsimp only at hbey
        have hP : va_P D vwC [(h, .inr (1, [.int (nI d), .int kb, .ref fo, .ref ke, .ref ht, .ref wo, .ref fi, .ref se])), (fi, LA cJ 4 B5)] H := hP
        have hD : va_D A [(h, .inr (1, [.int (nI d), .int kb, .ref fo, .ref ke, .ref ht, .ref wo, .ref fi, .ref se])), (fi, LA cJ 4 B5)] := hD
        rcases hbey with ⟨rfl, hbey⟩ | ⟨rfl, hbey⟩
        · skip
          refine xz_ne (tgt := 49) (X := (1 : Nat)) hx hb (nI_toInt (by omega)) d_K_takePoint_42 (by decide) (fun c42_6 => ?_) (fun c42_6 => absurd c42_6 (by omega))
          refine lv_iconst (v := nI 0) hx hb d_K_takePoint_49 (by decide) ?_
          exact hret H locs _ ls (nI 0) B5 d_K_takePoint_50 ⟨Or.inr ⟨rfl, fun q => hbey (tp_fi hrow q)⟩, fun _ => hrow⟩ hP hD hS
        · skip
          refine xz_ne (tgt := 49) (X := (0 : Nat)) hx hb (nI_toInt (by omega)) d_K_takePoint_42 (by decide) (fun c42_7 => absurd c42_7 (by omega)) (fun c42_7 => ?_)
          refine lv_iconst (v := nI 1) hx hb d_K_takePoint_45 (by decide) ?_
          refine lv_goto (tgt := 50) hx hb d_K_takePoint_46 (by decide) ?_
          exact hret H locs _ ls (nI 1) B5 d_K_takePoint_50 (by have hb := tp_iff hrow (Classical.byContradiction hbey); exact ⟨Or.inl ⟨rfl, ⟨by omega, by omega⟩, hb⟩, fun _ => hrow⟩) hP hD hS
      · skip
        refine lv_iconst (v := nI 0) hx hb d_K_takePoint_13 (by decide) ?_
        exact hret H locs _ ls (nI 0) A1 d_K_takePoint_14 ⟨Or.inr ⟨rfl, by omega⟩, fun q => absurd q.1 (by omega)⟩ hP hD hS
  rw [hH, hlc] at key; exact key

def rm_c_rowTimes : Room := { frames := 1, cells := 0, slots := 0, locals := 21 }
set_option maxHeartbeats 4000000 in
set_option maxRecDepth 100000 in
/-- a row of the form times a point -/
theorem c_rowTimes (l : Launch) (D : va_G) (cJ : ClassId) (h : Nat) (d : Nat) (kb : Int32) (fo : Nat) (ke : Nat) (ht : Nat) (wo : Nat) (fi : Nat) (se : Nat) (Fm : Nat → Int) (a : Nat) (G : Nat → Int) (i : Nat) (hd : d ≤ 3) (hi : i ≤ 3) (sz : Nat) : xMl l y_K_rowTimes (Cond.code y_K_rowTimes b_K_rowTimes 6 (some .long) :: tW) rm_c_rowTimes [.ref h, .int (nI i), .ref a] D vwC [(cJ, .long)] sz [(h, .inr (1, [.int (nI d), .int kb, .ref fo, .ref ke, .ref ht, .ref wo, .ref fi, .ref se])), (fo, LA cJ 16 Fm), (a, LA cJ 4 G)] (fun (rv : Int64) (_ : Unit) => rv = lI (rowN Fm G i (d + 1))) (fun (_ : Unit) => [(h, .inr (1, [.int (nI d), .int kb, .ref fo, .ref ke, .ref ht, .ref wo, .ref fi, .ref se])), (fo, LA cJ 16 Fm), (a, LA cJ 4 G)]) 0 0 := by
  refine xol (cc := b_K_rowTimes) (maxL := 6) (by decide) rfl (Nat.le_of_ble_eq_true rfl) ?_
  intro p e s m args below meth c Q A hx hb hml hts hown hN hA hS hP hK hD hret ls hl
  have hl : lv_has ls 6 [(0, .ref h), (1, .int (nI i)), (2, .ref a)] := hl
  obtain ⟨H, hH⟩ : ∃ z, z = s.heap := ⟨_, rfl⟩
  obtain ⟨locs, hlc⟩ : ∃ z : List Loc, z = [] := ⟨_, rfl⟩
  rw [← hH] at hP
  have hS : va_S A s.heap H locs := by rw [hH, hlc]; exact hS
  have key : W p l e rm_c_rowTimes s m args below meth c H locs 0 0 Q (F0 m 0 ls []) := by
    refine lv_lconst (v := lI 0) hx hb d_K_rowTimes_0 (by decide) ?_
    refine lv_lstore_n (lv' := [(3, .long (lI 0)), (0, .ref h), (1, .int (nI i)), (2, .ref a)]) hx hb d_K_rowTimes_1 rfl hl (by decide) rfl (fun ls hl => ?_)
    refine lv_iconst (v := nI 0) hx hb d_K_rowTimes_2 (by decide) ?_
    refine lv_istore (lv' := [(5, .int (nI 0)), (3, .long (lI 0)), (0, .ref h), (1, .int (nI i)), (2, .ref a)]) hx hb d_K_rowTimes_3 hl (by decide) rfl (fun ls hl => ?_)
    have lp_5 : ∀ (n_5 : Nat) (j : Nat) (H : Heap) (locs : List Loc) (ls : Array Slot), (j ≤ d + 1) → (d + 1 - j) < n_5 → va_P D vwC [(h, .inr (1, [.int (nI d), .int kb, .ref fo, .ref ke, .ref ht, .ref wo, .ref fi, .ref se])), (fo, LA cJ 16 Fm), (a, LA cJ 4 G)] H → va_D A [(h, .inr (1, [.int (nI d), .int kb, .ref fo, .ref ke, .ref ht, .ref wo, .ref fi, .ref se])), (fo, LA cJ 16 Fm), (a, LA cJ 4 G)] → va_S A s.heap H locs → lv_has ls 6 [(0, .ref h), (1, .int (nI i)), (2, .ref a), (3, .long (lI (rowN Fm G i j))), (5, .int (nI j))] → W p l e rm_c_rowTimes s m args below meth c H locs 0 0 Q (F0 m 5 ls []) := by
      intro n_5
      induction n_5 with
      | zero => intro j H locs ls hj hn_5; exact absurd hn_5 (Nat.not_lt_zero _)
      | succ n_5 ih_5 =>
        intro j H locs ls hj hn_5 hP hD hS hl
        refine lv_iload hx hb d_K_rowTimes_5 (lv_at hl 4 rfl) ?_
        refine lv_aload_n hx hb d_K_rowTimes_7 rfl (lv_at hl 0 rfl) ?_
        refine va_get (D := D) (ci := 1) (v := .int (nI d)) (C := R_K) (T := F_K) (N := 8) hx hb hts iw_K hown hK hP 0 rfl rfl 0 (by decide) (hts _ tw_42) (fun _ h9 => h9) rfl d_K_rowTimes_8 ?_
        refine xn_gt (tgt := 39) hx hb (by omega) (by omega) d_K_rowTimes_11 (by decide) (fun c11_0 => ?_) (fun c11_0 => ?_)
        · skip
          refine lv_lload_n hx hb d_K_rowTimes_39 rfl (lv_at hl 3 rfl) ?_
          exact hret H locs _ ls (lI (rowN Fm G i j)) () d_K_rowTimes_40 (by rw [show j = d + 1 from by omega]) hP hD hS
        · skip
          refine lv_lload_n hx hb d_K_rowTimes_14 rfl (lv_at hl 3 rfl) ?_
          refine lv_aload_n hx hb d_K_rowTimes_15 rfl (lv_at hl 0 rfl) ?_
          refine va_get (D := D) (ci := 1) (v := .ref fo) (C := R_K) (T := F_K) (N := 8) hx hb hts iw_K hown hK hP 0 rfl rfl 2 (by decide) (hts _ tw_44) (fun _ h9 => h9) rfl d_K_rowTimes_16 ?_
          refine lv_iload_n hx hb d_K_rowTimes_19 rfl (lv_at hl 1 rfl) ?_
          refine lv_iload hx hb d_K_rowTimes_20 (lv_at hl 4 rfl) ?_
          refine xci (wc := []) (wr := [(h, .inr (1, [.int (nI d), .int kb, .ref fo, .ref ke, .ref ht, .ref wo, .ref fi, .ref se])), (fo, LA cJ 16 Fm), (a, LA cJ 4 G)]) hP hD hS hA [] [0, 1, 2] rfl rfl (by decide) (by decide) (va_runS (As := [.int (nI i), .int (nI j)]) (rest := [.ref fo, .long (lI (rowN Fm G i j))]) ⟨hx, hb, hml, hown, hts⟩ (c_place l D cJ i j H.size) (cwS 2 hts (gS tw_86 tw_87 tw_1 tw_88) rfl rfl rfl ⟨rfl, hd_K_place⟩ ⟨Nat.le_of_ble_eq_true rfl, Nat.le_of_ble_eq_true rfl⟩) (xPreS hN hK (hP.sub (ws' := []) [] rfl) (hD.sub (ws' := []) [] (by decide) rfl)) rfl rfl hl.1 rfl (lv_room (Nat.le_of_ble_eq_true rfl)) d_K_rowTimes_22 ⟨Nat.le_of_ble_eq_true rfl, Nat.le_of_ble_eq_true rfl⟩) (fun r_2 u_3 H locs hw_4 hP hD hS => ?_)
          try dsimp only at hw_4
          have hP : va_P D vwC [(h, .inr (1, [.int (nI d), .int kb, .ref fo, .ref ke, .ref ht, .ref wo, .ref fi, .ref se])), (fo, LA cJ 16 Fm), (a, LA cJ 4 G)] H := hP
          have hD : va_D A [(h, .inr (1, [.int (nI d), .int kb, .ref fo, .ref ke, .ref ht, .ref wo, .ref fi, .ref se])), (fo, LA cJ 16 Fm), (a, LA cJ 4 G)] := hD
          subst hw_4
          refine xl_ald hx hb hK hP 1 0 rfl rfl (k := 4 * i + j) (by omega) (by first | decide | omega) d_K_rowTimes_25 ?_
          refine lv_aload_n hx hb d_K_rowTimes_26 rfl (lv_at hl 2 rfl) ?_
          refine lv_iload hx hb d_K_rowTimes_27 (lv_at hl 4 rfl) ?_
          refine xl_ald hx hb hK hP 2 0 rfl rfl (k := j) (by omega) (by first | decide | omega) d_K_rowTimes_29 ?_
          refine xl_mul hx hb d_K_rowTimes_30 ?_
          refine xl_add hx hb d_K_rowTimes_31 ?_
          refine lv_lstore_n (lv' := [(3, .long (lI ((rowN Fm G i j) + ((Fm (4 * i + j)) * (G j))))), (0, .ref h), (1, .int (nI i)), (2, .ref a), (5, .int (nI j))]) hx hb d_K_rowTimes_32 rfl hl (by decide) rfl (fun ls hl => ?_)
          refine lv_iinc (v := nI (j + 1)) (lv' := [(5, .int (nI (j + 1))), (3, .long (lI ((rowN Fm G i j) + ((Fm (4 * i + j)) * (G j))))), (0, .ref h), (1, .int (nI i)), (2, .ref a)]) hx hb d_K_rowTimes_33 hl (k := 4) rfl (nI_add _ _) (by decide) rfl (fun ls hl => ?_)
          refine lv_goto (tgt := 5) hx hb d_K_rowTimes_36 (by decide) ?_
          exact ih_5 (j + 1) H locs ls (by omega) (by omega) hP hD hS (lv_sub hl [2, 3, 4, 1, 0] rfl)
    exact lp_5 ((d + 1 - 0) + 1) 0 H locs ls (Nat.zero_le _) (by omega) hP hD hS (lv_sub hl [2, 3, 4, 1, 0] rfl)
  rw [hH, hlc] at key; exact key

def rm_c_formOf2 : Room := { frames := 2, cells := 0, slots := 0, locals := 46 }
set_option maxHeartbeats 4000000 in
set_option maxRecDepth 100000 in
/-- the form at two rows -/
theorem c_formOf2 (l : Launch) (D : va_G) (cJ : ClassId) (h : Nat) (d : Nat) (kb : Int32) (fo : Nat) (ke : Nat) (ht : Nat) (wo : Nat) (fi : Nat) (se : Nat) (Fm : Nat → Int) (a : Nat) (L : Nat → Int) (b : Nat) (G : Nat → Int) (hd : d ≤ 3) (sz : Nat) : xMl l y_K_formOf (Cond.code y_K_formOf b_K_formOf 6 (some .long) :: tW) rm_c_formOf2 [.ref h, .ref a, .ref b] D vwC [(cJ, .long)] sz [(h, .inr (1, [.int (nI d), .int kb, .ref fo, .ref ke, .ref ht, .ref wo, .ref fi, .ref se])), (fo, LA cJ 16 Fm), (a, LA cJ 4 L), (b, LA cJ 4 G)] (fun (rv : Int64) (_ : Unit) => rv = lI (frmN Fm L G d (d + 1))) (fun (_ : Unit) => [(h, .inr (1, [.int (nI d), .int kb, .ref fo, .ref ke, .ref ht, .ref wo, .ref fi, .ref se])), (fo, LA cJ 16 Fm), (a, LA cJ 4 L), (b, LA cJ 4 G)]) 0 0 := by
  refine xol (cc := b_K_formOf) (maxL := 6) (by decide) rfl (Nat.le_of_ble_eq_true rfl) ?_
  intro p e s m args below meth c Q A hx hb hml hts hown hN hA hS hP hK hD hret ls hl
  have hl : lv_has ls 6 [(0, .ref h), (1, .ref a), (2, .ref b)] := hl
  obtain ⟨H, hH⟩ : ∃ z, z = s.heap := ⟨_, rfl⟩
  obtain ⟨locs, hlc⟩ : ∃ z : List Loc, z = [] := ⟨_, rfl⟩
  rw [← hH] at hP
  have hS : va_S A s.heap H locs := by rw [hH, hlc]; exact hS
  have key : W p l e rm_c_formOf2 s m args below meth c H locs 0 0 Q (F0 m 0 ls []) := by
    refine lv_lconst (v := lI 0) hx hb d_K_formOf_0 (by decide) ?_
    refine lv_lstore_n (lv' := [(3, .long (lI 0)), (0, .ref h), (1, .ref a), (2, .ref b)]) hx hb d_K_formOf_1 rfl hl (by decide) rfl (fun ls hl => ?_)
    refine lv_iconst (v := nI 0) hx hb d_K_formOf_2 (by decide) ?_
    refine lv_istore (lv' := [(5, .int (nI 0)), (3, .long (lI 0)), (0, .ref h), (1, .ref a), (2, .ref b)]) hx hb d_K_formOf_3 hl (by decide) rfl (fun ls hl => ?_)
    have lp_5 : ∀ (n_5 : Nat) (i : Nat) (H : Heap) (locs : List Loc) (ls : Array Slot), (i ≤ d + 1) → (d + 1 - i) < n_5 → va_P D vwC [(h, .inr (1, [.int (nI d), .int kb, .ref fo, .ref ke, .ref ht, .ref wo, .ref fi, .ref se])), (fo, LA cJ 16 Fm), (a, LA cJ 4 L), (b, LA cJ 4 G)] H → va_D A [(h, .inr (1, [.int (nI d), .int kb, .ref fo, .ref ke, .ref ht, .ref wo, .ref fi, .ref se])), (fo, LA cJ 16 Fm), (a, LA cJ 4 L), (b, LA cJ 4 G)] → va_S A s.heap H locs → lv_has ls 6 [(0, .ref h), (1, .ref a), (2, .ref b), (3, .long (lI (frmN Fm L G d i))), (5, .int (nI i))] → W p l e rm_c_formOf2 s m args below meth c H locs 0 0 Q (F0 m 5 ls []) := by
      intro n_5
      induction n_5 with
      | zero => intro i H locs ls hi hn_5; exact absurd hn_5 (Nat.not_lt_zero _)
      | succ n_5 ih_5 =>
        intro i H locs ls hi hn_5 hP hD hS hl
        refine lv_iload hx hb d_K_formOf_5 (lv_at hl 4 rfl) ?_
        refine lv_aload_n hx hb d_K_formOf_7 rfl (lv_at hl 0 rfl) ?_
        refine va_get (D := D) (ci := 1) (v := .int (nI d)) (C := R_K) (T := F_K) (N := 8) hx hb hts iw_K hown hK hP 0 rfl rfl 0 (by decide) (hts _ tw_42) (fun _ h9 => h9) rfl d_K_formOf_8 ?_
        refine xn_gt (tgt := 35) hx hb (by omega) (by omega) d_K_formOf_11 (by decide) (fun c11_0 => ?_) (fun c11_0 => ?_)
        · skip
          refine lv_lload_n hx hb d_K_formOf_35 rfl (lv_at hl 3 rfl) ?_
          exact hret H locs _ ls (lI (frmN Fm L G d i)) () d_K_formOf_36 (by rw [show i = d + 1 from by omega]) hP hD hS
        · skip
          refine lv_lload_n hx hb d_K_formOf_14 rfl (lv_at hl 3 rfl) ?_
          refine lv_aload_n hx hb d_K_formOf_15 rfl (lv_at hl 1 rfl) ?_
          refine lv_iload hx hb d_K_formOf_16 (lv_at hl 4 rfl) ?_
          refine xl_ald hx hb hK hP 2 0 rfl rfl (k := i) (by omega) (by first | decide | omega) d_K_formOf_18 ?_
          refine lv_aload_n hx hb d_K_formOf_19 rfl (lv_at hl 0 rfl) ?_
          refine lv_iload hx hb d_K_formOf_20 (lv_at hl 4 rfl) ?_
          refine lv_aload_n hx hb d_K_formOf_22 rfl (lv_at hl 2 rfl) ?_
          refine xcl (wc := [(h, .inr (1, [.int (nI d), .int kb, .ref fo, .ref ke, .ref ht, .ref wo, .ref fi, .ref se])), (fo, LA cJ 16 Fm), (b, LA cJ 4 G)]) (wr := [(a, LA cJ 4 L)]) hP hD hS hA [0, 1, 3] [2] rfl rfl (by decide) (by decide) (va_runV (As := [.int (nI i), .ref b]) (rest := [.long (lI (L i)), .long (lI (frmN Fm L G d i))]) ⟨hx, hb, hml, hown, hts⟩ (c_rowTimes l D cJ h d kb fo ke ht wo fi se Fm b G i (by first | assumption | omega) (by first | assumption | omega) H.size) (cwV 2 hts (gV tw_226 tw_228 tws_8 tw_1 tw_229) rfl rfl rfl ⟨rfl, hd_K_rowTimes⟩ ⟨Nat.le_of_ble_eq_true rfl, Nat.le_of_ble_eq_true rfl⟩) (xPreV (C := R_K) (T := F_K) (N := 8) (q0 := 0) hN hK (hP.sub (ws' := [(h, .inr (1, [.int (nI d), .int kb, .ref fo, .ref ke, .ref ht, .ref wo, .ref fi, .ref se])), (fo, LA cJ 16 Fm), (b, LA cJ 4 G)]) [0, 1, 3] rfl) (hD.sub (ws' := [(h, .inr (1, [.int (nI d), .int kb, .ref fo, .ref ke, .ref ht, .ref wo, .ref fi, .ref se])), (fo, LA cJ 16 Fm), (b, LA cJ 4 G)]) [0, 1, 3] (by decide) rfl) rfl rfl) rfl rfl hl.1 rfl (lv_room (Nat.le_of_ble_eq_true rfl)) d_K_formOf_23 ⟨Nat.le_of_ble_eq_true rfl, Nat.le_of_ble_eq_true rfl⟩) (fun r_2 u_3 H locs hw_4 hP hD hS => ?_)
          try dsimp only at hw_4
          have hP : va_P D vwC [(h, .inr (1, [.int (nI d), .int kb, .ref fo, .ref ke, .ref ht, .ref wo, .ref fi, .ref se])), (fo, LA cJ 16 Fm), (a, LA cJ 4 L), (b, LA cJ 4 G)] H := hP.sub [1, 2, 0, 3] rfl
          have hD : va_D A [(h, .inr (1, [.int (nI d), .int kb, .ref fo, .ref ke, .ref ht, .ref wo, .ref fi, .ref se])), (fo, LA cJ 16 Fm), (a, LA cJ 4 L), (b, LA cJ 4 G)] := hD.sub [1, 2, 0, 3] (by decide) rfl
          subst hw_4
          refine xl_mul hx hb d_K_formOf_26 ?_
          refine xl_add hx hb d_K_formOf_27 ?_
          refine lv_lstore_n (lv' := [(3, .long (lI ((frmN Fm L G d i) + ((L i) * (rowN Fm G i (d + 1)))))), (0, .ref h), (1, .ref a), (2, .ref b), (5, .int (nI i))]) hx hb d_K_formOf_28 rfl hl (by decide) rfl (fun ls hl => ?_)
          refine lv_iinc (v := nI (i + 1)) (lv' := [(5, .int (nI (i + 1))), (3, .long (lI ((frmN Fm L G d i) + ((L i) * (rowN Fm G i (d + 1)))))), (0, .ref h), (1, .ref a), (2, .ref b)]) hx hb d_K_formOf_29 hl (k := 4) rfl (nI_add _ _) (by decide) rfl (fun ls hl => ?_)
          refine lv_goto (tgt := 5) hx hb d_K_formOf_32 (by decide) ?_
          exact ih_5 (i + 1) H locs ls (by omega) (by omega) hP hD hS (lv_sub hl [2, 3, 4, 1, 0] rfl)
    exact lp_5 ((d + 1 - 0) + 1) 0 H locs ls (Nat.zero_le _) (by omega) hP hD hS (lv_sub hl [2, 3, 4, 1, 0] rfl)
  rw [hH, hlc] at key; exact key

def rm_c_formOf1 : Room := { frames := 2, cells := 0, slots := 0, locals := 46 }
set_option maxHeartbeats 4000000 in
set_option maxRecDepth 100000 in
/-- the form at one row -/
theorem c_formOf1 (l : Launch) (D : va_G) (cJ : ClassId) (h : Nat) (d : Nat) (kb : Int32) (fo : Nat) (ke : Nat) (ht : Nat) (wo : Nat) (fi : Nat) (se : Nat) (Fm : Nat → Int) (a : Nat) (G : Nat → Int) (hd : d ≤ 3) (sz : Nat) : xMl l y_K_formOf (Cond.code y_K_formOf b_K_formOf 6 (some .long) :: tW) rm_c_formOf1 [.ref h, .ref a, .ref a] D vwC [(cJ, .long)] sz [(h, .inr (1, [.int (nI d), .int kb, .ref fo, .ref ke, .ref ht, .ref wo, .ref fi, .ref se])), (fo, LA cJ 16 Fm), (a, LA cJ 4 G)] (fun (rv : Int64) (_ : Unit) => rv = lI (frmN Fm G G d (d + 1))) (fun (_ : Unit) => [(h, .inr (1, [.int (nI d), .int kb, .ref fo, .ref ke, .ref ht, .ref wo, .ref fi, .ref se])), (fo, LA cJ 16 Fm), (a, LA cJ 4 G)]) 0 0 := by
  refine xol (cc := b_K_formOf) (maxL := 6) (by decide) rfl (Nat.le_of_ble_eq_true rfl) ?_
  intro p e s m args below meth c Q A hx hb hml hts hown hN hA hS hP hK hD hret ls hl
  have hl : lv_has ls 6 [(0, .ref h), (1, .ref a), (2, .ref a)] := hl
  obtain ⟨H, hH⟩ : ∃ z, z = s.heap := ⟨_, rfl⟩
  obtain ⟨locs, hlc⟩ : ∃ z : List Loc, z = [] := ⟨_, rfl⟩
  rw [← hH] at hP
  have hS : va_S A s.heap H locs := by rw [hH, hlc]; exact hS
  have key : W p l e rm_c_formOf1 s m args below meth c H locs 0 0 Q (F0 m 0 ls []) := by
    refine lv_lconst (v := lI 0) hx hb d_K_formOf_0 (by decide) ?_
    refine lv_lstore_n (lv' := [(3, .long (lI 0)), (0, .ref h), (1, .ref a), (2, .ref a)]) hx hb d_K_formOf_1 rfl hl (by decide) rfl (fun ls hl => ?_)
    refine lv_iconst (v := nI 0) hx hb d_K_formOf_2 (by decide) ?_
    refine lv_istore (lv' := [(5, .int (nI 0)), (3, .long (lI 0)), (0, .ref h), (1, .ref a), (2, .ref a)]) hx hb d_K_formOf_3 hl (by decide) rfl (fun ls hl => ?_)
    have lp_5 : ∀ (n_5 : Nat) (i : Nat) (H : Heap) (locs : List Loc) (ls : Array Slot), (i ≤ d + 1) → (d + 1 - i) < n_5 → va_P D vwC [(h, .inr (1, [.int (nI d), .int kb, .ref fo, .ref ke, .ref ht, .ref wo, .ref fi, .ref se])), (fo, LA cJ 16 Fm), (a, LA cJ 4 G)] H → va_D A [(h, .inr (1, [.int (nI d), .int kb, .ref fo, .ref ke, .ref ht, .ref wo, .ref fi, .ref se])), (fo, LA cJ 16 Fm), (a, LA cJ 4 G)] → va_S A s.heap H locs → lv_has ls 6 [(0, .ref h), (1, .ref a), (2, .ref a), (3, .long (lI (frmN Fm G G d i))), (5, .int (nI i))] → W p l e rm_c_formOf1 s m args below meth c H locs 0 0 Q (F0 m 5 ls []) := by
      intro n_5
      induction n_5 with
      | zero => intro i H locs ls hi hn_5; exact absurd hn_5 (Nat.not_lt_zero _)
      | succ n_5 ih_5 =>
        intro i H locs ls hi hn_5 hP hD hS hl
        refine lv_iload hx hb d_K_formOf_5 (lv_at hl 4 rfl) ?_
        refine lv_aload_n hx hb d_K_formOf_7 rfl (lv_at hl 0 rfl) ?_
        refine va_get (D := D) (ci := 1) (v := .int (nI d)) (C := R_K) (T := F_K) (N := 8) hx hb hts iw_K hown hK hP 0 rfl rfl 0 (by decide) (hts _ tw_42) (fun _ h9 => h9) rfl d_K_formOf_8 ?_
        refine xn_gt (tgt := 35) hx hb (by omega) (by omega) d_K_formOf_11 (by decide) (fun c11_0 => ?_) (fun c11_0 => ?_)
        · skip
          refine lv_lload_n hx hb d_K_formOf_35 rfl (lv_at hl 3 rfl) ?_
          exact hret H locs _ ls (lI (frmN Fm G G d i)) () d_K_formOf_36 (by rw [show i = d + 1 from by omega]) hP hD hS
        · skip
          refine lv_lload_n hx hb d_K_formOf_14 rfl (lv_at hl 3 rfl) ?_
          refine lv_aload_n hx hb d_K_formOf_15 rfl (lv_at hl 1 rfl) ?_
          refine lv_iload hx hb d_K_formOf_16 (lv_at hl 4 rfl) ?_
          refine xl_ald hx hb hK hP 2 0 rfl rfl (k := i) (by omega) (by first | decide | omega) d_K_formOf_18 ?_
          refine lv_aload_n hx hb d_K_formOf_19 rfl (lv_at hl 0 rfl) ?_
          refine lv_iload hx hb d_K_formOf_20 (lv_at hl 4 rfl) ?_
          refine lv_aload_n hx hb d_K_formOf_22 rfl (lv_at hl 2 rfl) ?_
          refine xcl (wc := [(h, .inr (1, [.int (nI d), .int kb, .ref fo, .ref ke, .ref ht, .ref wo, .ref fi, .ref se])), (fo, LA cJ 16 Fm), (a, LA cJ 4 G)]) (wr := []) hP hD hS hA [0, 1, 2] [] rfl rfl (by decide) (by decide) (va_runV (As := [.int (nI i), .ref a]) (rest := [.long (lI (G i)), .long (lI (frmN Fm G G d i))]) ⟨hx, hb, hml, hown, hts⟩ (c_rowTimes l D cJ h d kb fo ke ht wo fi se Fm a G i (by first | assumption | omega) (by first | assumption | omega) H.size) (cwV 2 hts (gV tw_226 tw_228 tws_8 tw_1 tw_229) rfl rfl rfl ⟨rfl, hd_K_rowTimes⟩ ⟨Nat.le_of_ble_eq_true rfl, Nat.le_of_ble_eq_true rfl⟩) (xPreV (C := R_K) (T := F_K) (N := 8) (q0 := 0) hN hK (hP.sub (ws' := [(h, .inr (1, [.int (nI d), .int kb, .ref fo, .ref ke, .ref ht, .ref wo, .ref fi, .ref se])), (fo, LA cJ 16 Fm), (a, LA cJ 4 G)]) [0, 1, 2] rfl) (hD.sub (ws' := [(h, .inr (1, [.int (nI d), .int kb, .ref fo, .ref ke, .ref ht, .ref wo, .ref fi, .ref se])), (fo, LA cJ 16 Fm), (a, LA cJ 4 G)]) [0, 1, 2] (by decide) rfl) rfl rfl) rfl rfl hl.1 rfl (lv_room (Nat.le_of_ble_eq_true rfl)) d_K_formOf_23 ⟨Nat.le_of_ble_eq_true rfl, Nat.le_of_ble_eq_true rfl⟩) (fun r_2 u_3 H locs hw_4 hP hD hS => ?_)
          try dsimp only at hw_4
          have hP : va_P D vwC [(h, .inr (1, [.int (nI d), .int kb, .ref fo, .ref ke, .ref ht, .ref wo, .ref fi, .ref se])), (fo, LA cJ 16 Fm), (a, LA cJ 4 G)] H := hP
          have hD : va_D A [(h, .inr (1, [.int (nI d), .int kb, .ref fo, .ref ke, .ref ht, .ref wo, .ref fi, .ref se])), (fo, LA cJ 16 Fm), (a, LA cJ 4 G)] := hD
          subst hw_4
          refine xl_mul hx hb d_K_formOf_26 ?_
          refine xl_add hx hb d_K_formOf_27 ?_
          refine lv_lstore_n (lv' := [(3, .long (lI ((frmN Fm G G d i) + ((G i) * (rowN Fm G i (d + 1)))))), (0, .ref h), (1, .ref a), (2, .ref a), (5, .int (nI i))]) hx hb d_K_formOf_28 rfl hl (by decide) rfl (fun ls hl => ?_)
          refine lv_iinc (v := nI (i + 1)) (lv' := [(5, .int (nI (i + 1))), (3, .long (lI ((frmN Fm G G d i) + ((G i) * (rowN Fm G i (d + 1)))))), (0, .ref h), (1, .ref a), (2, .ref a)]) hx hb d_K_formOf_29 hl (k := 4) rfl (nI_add _ _) (by decide) rfl (fun ls hl => ?_)
          refine lv_goto (tgt := 5) hx hb d_K_formOf_32 (by decide) ?_
          exact ih_5 (i + 1) H locs ls (by omega) (by omega) hP hD hS (lv_sub hl [2, 3, 4, 1, 0] rfl)
    exact lp_5 ((d + 1 - 0) + 1) 0 H locs ls (Nat.zero_le _) (by omega) hP hD hS (lv_sub hl [2, 3, 4, 1, 0] rfl)
  rw [hH, hlc] at key; exact key

def rm_c_gcd : Room := { frames := 1, cells := 0, slots := 0, locals := 60 }
set_option maxHeartbeats 4000000 in
set_option maxRecDepth 100000 in
/-- Euclid -/
theorem c_gcd (l : Launch) (D : va_G) (cJ : ClassId) (a : Int) (b : Int) (ha : a.natAbs < 2 ^ 40) (hb2 : b.natAbs < 2 ^ 40) (sz : Nat) : xMl l y_K_greatestDivisor (Cond.code y_K_greatestDivisor b_K_greatestDivisor 11 (some .long) :: tW) rm_c_gcd [.long (lI a), .long (lI b)] D vwC [(cJ, .long)] sz [] (fun (rv : Int64) (_ : Unit) => rv = lI ((Nat.gcd a.natAbs b.natAbs : Nat) : Int)) (fun (_ : Unit) => []) 0 0 := by
  refine xol (cc := b_K_greatestDivisor) (maxL := 11) (by decide) rfl (Nat.le_of_ble_eq_true rfl) ?_
  intro p e s m args below meth c Q A hx hb hml hts hown hN hA hS hP hK hD hret ls hl
  have hl : lv_has ls 11 [(0, .long (lI a)), (2, .long (lI b))] := hl
  obtain ⟨H, hH⟩ : ∃ z, z = s.heap := ⟨_, rfl⟩
  obtain ⟨locs, hlc⟩ : ∃ z : List Loc, z = [] := ⟨_, rfl⟩
  rw [← hH] at hP
  have hS : va_S A s.heap H locs := by rw [hH, hlc]; exact hS
  have key : W p l e rm_c_gcd s m args below meth c H locs 0 0 Q (F0 m 0 ls []) := by
    refine lv_lload_n hx hb d_K_greatestDivisor_0 rfl (lv_at hl 0 rfl) ?_
    refine xl_abs hx hb (by rw [hml]; exact hl.1.symm) hown (hts _ tw_182) (hts _ tw_183) (hts _ tw_6) (hts _ tw_184) (Nat.le_of_ble_eq_true rfl) (Nat.le_of_ble_eq_true rfl) (Nat.zero_le _) (Nat.zero_le _) (by first | assumption | (unfold lB; omega)) d_K_greatestDivisor_1 ?_
    refine lv_lstore (lv' := [(4, .long (lI ((a.natAbs : Nat) : Int))), (0, .long (lI a)), (2, .long (lI b))]) hx hb d_K_greatestDivisor_4 hl (by decide) rfl (fun ls hl => ?_)
    refine lv_lload_n hx hb d_K_greatestDivisor_6 rfl (lv_at hl 2 rfl) ?_
    refine xl_abs hx hb (by rw [hml]; exact hl.1.symm) hown (hts _ tw_182) (hts _ tw_183) (hts _ tw_6) (hts _ tw_184) (Nat.le_of_ble_eq_true rfl) (Nat.le_of_ble_eq_true rfl) (Nat.zero_le _) (Nat.zero_le _) (by first | assumption | (unfold lB; omega)) d_K_greatestDivisor_7 ?_
    refine lv_lstore (lv' := [(6, .long (lI ((b.natAbs : Nat) : Int))), (4, .long (lI ((a.natAbs : Nat) : Int))), (0, .long (lI a)), (2, .long (lI b))]) hx hb d_K_greatestDivisor_10 hl (by decide) rfl (fun ls hl => ?_)
    refine lv_iconst (v := nI 0) hx hb d_K_greatestDivisor_12 (by decide) ?_
    refine lv_istore (lv' := [(8, .int (nI 0)), (6, .long (lI ((b.natAbs : Nat) : Int))), (4, .long (lI ((a.natAbs : Nat) : Int))), (0, .long (lI a)), (2, .long (lI b))]) hx hb d_K_greatestDivisor_13 hl (by decide) rfl (fun ls hl => ?_)
    have lp_15 : ∀ (n_15 : Nat) (t : Nat) (u : Nat) (v : Nat) (H : Heap) (locs : List Loc) (ls : Array Slot), (t ≤ 100) → (u < 2 ^ 40) → (v < 2 ^ 40) → (euI t u v) → (Nat.gcd u v = Nat.gcd a.natAbs b.natAbs) → (100 - t) < n_15 → va_P D vwC [] H → va_D A [] → va_S A s.heap H locs → lv_has ls 11 [(4, .long (lI ((u : Nat) : Int))), (6, .long (lI ((v : Nat) : Int))), (8, .int (nI t))] → W p l e rm_c_gcd s m args below meth c H locs 0 0 Q (F0 m 15 ls []) := by
      intro n_15
      induction n_15 with
      | zero => intro t u v H locs ls ht hu hv he hg hn_15; exact absurd hn_15 (Nat.not_lt_zero _)
      | succ n_15 ih_15 =>
        intro t u v H locs ls ht hu hv he hg hn_15 hP hD hS hl
        refine lv_iload hx hb d_K_greatestDivisor_15 (lv_at hl 2 rfl) ?_
        refine lv_bipush (v := nI 100) hx hb d_K_greatestDivisor_17 (by decide) ?_
        refine xn_ge (tgt := 50) hx hb (by omega) (by omega) d_K_greatestDivisor_19 (by decide) (fun c19_0 => ?_) (fun c19_0 => ?_)
        · skip
          refine lv_lload hx hb d_K_greatestDivisor_50 (lv_at hl 0 rfl) ?_
          exact hret H locs _ ls (lI ((u : Nat) : Int)) () d_K_greatestDivisor_52 (by rw [← hg, show v = 0 from (by first | omega | exact euI_end (by omega) he), Nat.gcd_zero_right]) hP hD hS
        · skip
          refine lv_lload hx hb d_K_greatestDivisor_22 (lv_at hl 1 rfl) ?_
          refine lv_lconst (v := lI 0) hx hb d_K_greatestDivisor_24 (by decide) ?_
          refine xl_eq (tgt := 50) hx hb (by first | assumption | (unfold lB; omega)) ⟨by decide, by decide⟩ d_K_greatestDivisor_25 d_K_greatestDivisor_26 (by decide) (fun c26_1 => ?_) (fun c26_1 => ?_)
          · skip
            refine lv_lload hx hb d_K_greatestDivisor_50 (lv_at hl 0 rfl) ?_
            exact hret H locs _ ls (lI ((u : Nat) : Int)) () d_K_greatestDivisor_52 (by rw [← hg, show v = 0 from (by first | omega | exact euI_end (by omega) he), Nat.gcd_zero_right]) hP hD hS
          · skip
            refine lv_lload hx hb d_K_greatestDivisor_29 (lv_at hl 0 rfl) ?_
            refine lv_lload hx hb d_K_greatestDivisor_31 (lv_at hl 1 rfl) ?_
            refine xl_rem hx hb (by first | assumption | (unfold lB; omega)) (by first | assumption | (unfold lB; omega)) (by omega) (by omega) d_K_greatestDivisor_33 ?_
            rw [show ((u : Nat) : Int).tmod ((v : Nat) : Int) = ((u % v : Nat) : Int) from rfl]
            refine lv_lstore (lv' := [(9, .long (lI ((u % v : Nat) : Int))), (4, .long (lI ((u : Nat) : Int))), (6, .long (lI ((v : Nat) : Int))), (8, .int (nI t))]) hx hb d_K_greatestDivisor_34 hl (by decide) rfl (fun ls hl => ?_)
            refine lv_lload hx hb d_K_greatestDivisor_36 (lv_at hl 2 rfl) ?_
            refine lv_lstore (lv' := [(4, .long (lI ((v : Nat) : Int))), (9, .long (lI ((u % v : Nat) : Int))), (6, .long (lI ((v : Nat) : Int))), (8, .int (nI t))]) hx hb d_K_greatestDivisor_38 hl (by decide) rfl (fun ls hl => ?_)
            refine lv_lload hx hb d_K_greatestDivisor_40 (lv_at hl 1 rfl) ?_
            refine lv_lstore (lv' := [(6, .long (lI ((u % v : Nat) : Int))), (4, .long (lI ((v : Nat) : Int))), (9, .long (lI ((u % v : Nat) : Int))), (8, .int (nI t))]) hx hb d_K_greatestDivisor_42 hl (by decide) rfl (fun ls hl => ?_)
            refine lv_iinc (v := nI (t + 1)) (lv' := [(8, .int (nI (t + 1))), (6, .long (lI ((u % v : Nat) : Int))), (4, .long (lI ((v : Nat) : Int))), (9, .long (lI ((u % v : Nat) : Int)))]) hx hb d_K_greatestDivisor_44 hl (k := 3) rfl (nI_add _ _) (by decide) rfl (fun ls hl => ?_)
            refine lv_goto (tgt := 15) hx hb d_K_greatestDivisor_47 (by decide) ?_
            exact ih_15 (t + 1) v (u % v) H locs ls (by omega) hv (Nat.lt_trans (Nat.mod_lt u (by omega)) hv) (euI_step (by omega) he) (by rw [← hg, Nat.gcd_comm u v, Nat.gcd_rec v u, Nat.gcd_comm]) (by omega) hP hD hS (lv_sub hl [2, 1, 0] rfl)
    exact lp_15 ((100 - 0) + 1) 0 a.natAbs b.natAbs H locs ls (Nat.zero_le _) ha hb2 (euI_0 ha hb2) rfl (by omega) hP hD hS (lv_sub hl [2, 1, 0] rfl)
  rw [hH, hlc] at key; exact key

def rm_c_part : Room := { frames := 2, cells := 0, slots := 0, locals := 90 }
set_option maxHeartbeats 4000000 in
set_option maxRecDepth 100000 in
/-- a part of a fraction -/
theorem c_part (l : Launch) (D : va_G) (cJ : ClassId) (up : Int) (dn : Int) (pt : Int32) (hu : up.natAbs < 2 ^ 40) (hd : dn.natAbs < 2 ^ 40) (sz : Nat) : xMl l y_K_partOfFraction (Cond.code y_K_partOfFraction b_K_partOfFraction 9 (some .long) :: tW) rm_c_part [.long (lI up), .long (lI dn), .int pt] D vwC [(cJ, .long)] sz [] (fun (rv : Int64) (_ : Unit) => rv = lI (pfr up dn pt.toInt)) (fun (_ : Unit) => []) 0 0 := by
  refine xol (cc := b_K_partOfFraction) (maxL := 9) (by decide) rfl (Nat.le_of_ble_eq_true rfl) ?_
  intro p e s m args below meth c Q A hx hb hml hts hown hN hA hS hP hK hD hret ls hl
  have hl : lv_has ls 9 [(0, .long (lI up)), (2, .long (lI dn)), (4, .int pt)] := hl
  obtain ⟨H, hH⟩ : ∃ z, z = s.heap := ⟨_, rfl⟩
  obtain ⟨locs, hlc⟩ : ∃ z : List Loc, z = [] := ⟨_, rfl⟩
  rw [← hH] at hP
  have hS : va_S A s.heap H locs := by rw [hH, hlc]; exact hS
  have key : W p l e rm_c_part s m args below meth c H locs 0 0 Q (F0 m 0 ls []) := by
    refine lv_lload_n hx hb d_K_partOfFraction_0 rfl (lv_at hl 1 rfl) ?_
    refine lv_lconst (v := lI 0) hx hb d_K_partOfFraction_1 (by decide) ?_
    refine xl_ne (tgt := 10) hx hb (by first | assumption | (unfold lB; omega)) ⟨by decide, by decide⟩ d_K_partOfFraction_2 d_K_partOfFraction_3 (by decide) (fun c3_0 => ?_) (fun c3_0 => ?_)
    · skip
      refine lv_lload_n hx hb d_K_partOfFraction_10 rfl (lv_at hl 0 rfl) ?_
      refine lv_lload_n hx hb d_K_partOfFraction_11 rfl (lv_at hl 1 rfl) ?_
      refine xcl (wc := []) (wr := []) hP hD hS hA [] [] rfl rfl (by decide) (by decide) (va_runS (As := [.long (lI up), .long (lI dn)]) (rest := []) ⟨hx, hb, hml, hown, hts⟩ (c_gcd l D cJ up dn (by first | assumption | omega) (by first | assumption | omega) H.size) (cwS 2 hts (gS tw_179 tw_180 tw_1 tw_181) rfl rfl rfl ⟨rfl, hd_K_greatestDivisor⟩ ⟨Nat.le_of_ble_eq_true rfl, Nat.le_of_ble_eq_true rfl⟩) (xPreS hN hK (hP.sub (ws' := []) [] rfl) (hD.sub (ws' := []) [] (by decide) rfl)) rfl rfl hl.1 rfl (lv_room (Nat.le_of_ble_eq_true rfl)) d_K_partOfFraction_12 ⟨Nat.le_of_ble_eq_true rfl, Nat.le_of_ble_eq_true rfl⟩) (fun r_2 u_3 H locs hw_4 hP hD hS => ?_)
      try dsimp only at hw_4
      have hP : va_P D vwC [] H := hP
      have hD : va_D A [] := hD
      subst hw_4
      have hg0 : 0 < Nat.gcd up.natAbs dn.natAbs := Nat.gcd_pos_of_pos_right _ (by omega)
      have hg1 : Nat.gcd up.natAbs dn.natAbs ≤ dn.natAbs := Nat.gcd_le_right _ (by omega)
      refine lv_lstore (lv' := [(5, .long (lI ((Nat.gcd up.natAbs dn.natAbs : Nat) : Int))), (0, .long (lI up)), (2, .long (lI dn)), (4, .int pt)]) hx hb d_K_partOfFraction_15 hl (by decide) rfl (fun ls hl => ?_)
      refine lv_lload hx hb d_K_partOfFraction_17 (lv_at hl 0 rfl) ?_
      refine lv_lconst (v := lI 0) hx hb d_K_partOfFraction_19 (by decide) ?_
      refine xl_ne (tgt := 28) hx hb ⟨by omega, by omega⟩ ⟨by decide, by decide⟩ d_K_partOfFraction_20 d_K_partOfFraction_21 (by decide) (fun c21_4 => ?_) (fun c21_4 => absurd c21_4 (by omega))
      refine lv_lload_n hx hb d_K_partOfFraction_28 rfl (lv_at hl 2 rfl) ?_
      refine lv_lconst (v := lI 0) hx hb d_K_partOfFraction_29 (by decide) ?_
      refine xl_ge (tgt := 40) hx hb (by first | assumption | (unfold lB; omega)) ⟨by decide, by decide⟩ d_K_partOfFraction_30 d_K_partOfFraction_31 (by decide) (fun c31_5 => ?_) (fun c31_5 => ?_)
      · skip
        refine lv_lload hx hb d_K_partOfFraction_40 (lv_at hl 0 rfl) ?_
        refine lv_lstore (lv' := [(7, .long (lI ((Nat.gcd up.natAbs dn.natAbs : Nat) : Int))), (5, .long (lI ((Nat.gcd up.natAbs dn.natAbs : Nat) : Int))), (0, .long (lI up)), (2, .long (lI dn)), (4, .int pt)]) hx hb d_K_partOfFraction_42 hl (by decide) rfl (fun ls hl => ?_)
        refine lv_iload hx hb d_K_partOfFraction_44 (lv_at hl 4 rfl) ?_
        refine xz_ne (tgt := 53) (X := pt.toInt) hx hb rfl d_K_partOfFraction_46 (by decide) (fun c46_6 => ?_) (fun c46_6 => ?_)
        · skip
          refine lv_lload_n hx hb d_K_partOfFraction_53 rfl (lv_at hl 3 rfl) ?_
          refine lv_lload hx hb d_K_partOfFraction_54 (lv_at hl 0 rfl) ?_
          refine xl_div hx hb (by unfold lB; omega) (by unfold lB; omega) (by omega) (by omega) d_K_partOfFraction_56 ?_
          exact hret H locs _ ls (lI (dn.tdiv ((Nat.gcd up.natAbs dn.natAbs : Nat) : Int))) () d_K_partOfFraction_57 (by unfold pfr; rw [if_neg c3_0, if_neg (show ¬ dn < 0 from by omega), if_neg (show ¬ pt.toInt = 0 from by omega)]) hP hD hS
        · skip
          refine lv_lload_n hx hb d_K_partOfFraction_49 rfl (lv_at hl 2 rfl) ?_
          refine lv_goto (tgt := 54) hx hb d_K_partOfFraction_50 (by decide) ?_
          refine lv_lload hx hb d_K_partOfFraction_54 (lv_at hl 0 rfl) ?_
          refine xl_div hx hb (by unfold lB; omega) (by unfold lB; omega) (by omega) (by omega) d_K_partOfFraction_56 ?_
          exact hret H locs _ ls (lI (up.tdiv ((Nat.gcd up.natAbs dn.natAbs : Nat) : Int))) () d_K_partOfFraction_57 (by unfold pfr; rw [if_neg c3_0, if_neg (show ¬ dn < 0 from by omega), if_pos (show pt.toInt = 0 from by omega)]) hP hD hS
      · skip
        refine lv_lload hx hb d_K_partOfFraction_34 (lv_at hl 0 rfl) ?_
        refine xl_neg hx hb d_K_partOfFraction_36 ?_
        refine lv_goto (tgt := 42) hx hb d_K_partOfFraction_37 (by decide) ?_
        refine lv_lstore (lv' := [(7, .long (lI (-((Nat.gcd up.natAbs dn.natAbs : Nat) : Int)))), (5, .long (lI ((Nat.gcd up.natAbs dn.natAbs : Nat) : Int))), (0, .long (lI up)), (2, .long (lI dn)), (4, .int pt)]) hx hb d_K_partOfFraction_42 hl (by decide) rfl (fun ls hl => ?_)
        refine lv_iload hx hb d_K_partOfFraction_44 (lv_at hl 4 rfl) ?_
        refine xz_ne (tgt := 53) (X := pt.toInt) hx hb rfl d_K_partOfFraction_46 (by decide) (fun c46_7 => ?_) (fun c46_7 => ?_)
        · skip
          refine lv_lload_n hx hb d_K_partOfFraction_53 rfl (lv_at hl 3 rfl) ?_
          refine lv_lload hx hb d_K_partOfFraction_54 (lv_at hl 0 rfl) ?_
          refine xl_div hx hb (by unfold lB; omega) (by unfold lB; omega) (by omega) (by omega) d_K_partOfFraction_56 ?_
          exact hret H locs _ ls (lI (dn.tdiv (-((Nat.gcd up.natAbs dn.natAbs : Nat) : Int)))) () d_K_partOfFraction_57 (by unfold pfr; rw [if_neg c3_0, if_pos (show dn < 0 from by omega), if_neg (show ¬ pt.toInt = 0 from by omega)]) hP hD hS
        · skip
          refine lv_lload_n hx hb d_K_partOfFraction_49 rfl (lv_at hl 2 rfl) ?_
          refine lv_goto (tgt := 54) hx hb d_K_partOfFraction_50 (by decide) ?_
          refine lv_lload hx hb d_K_partOfFraction_54 (lv_at hl 0 rfl) ?_
          refine xl_div hx hb (by unfold lB; omega) (by unfold lB; omega) (by omega) (by omega) d_K_partOfFraction_56 ?_
          exact hret H locs _ ls (lI (up.tdiv (-((Nat.gcd up.natAbs dn.natAbs : Nat) : Int)))) () d_K_partOfFraction_57 (by unfold pfr; rw [if_neg c3_0, if_pos (show dn < 0 from by omega), if_pos (show pt.toInt = 0 from by omega)]) hP hD hS
    · skip
      refine lv_ldc2 (v := lI (-1000000000000000000)) hx hb hown (hts _ tw_85) d_K_partOfFraction_6 ?_
      exact hret H locs _ ls (lI (-1000000000000000000)) () d_K_partOfFraction_9 (by unfold pfr; rw [if_pos c3_0]; rfl) hP hD hS
  rw [hH, hlc] at key; exact key

def rm_c_clear : Room := { frames := 2, cells := 0, slots := 0, locals := 90 }
set_option maxHeartbeats 4000000 in
set_option maxRecDepth 100000 in
/-- a row without divisor -/
theorem c_clear (l : Launch) (D : va_G) (cJ : ClassId) (a : Nat) (G : Nat → Int) (n : Nat) (hn : n ≤ 4) (hG : ∀ k, k < n → (G k).natAbs < 2 ^ 40) (sz : Nat) : xMz l y_K_clearDivisor (Cond.code y_K_clearDivisor b_K_clearDivisor 9 (some .boolean) :: tW) rm_c_clear [.ref a, .int (nI n)] D vwC [(cJ, .long)] sz [(a, LA cJ 4 G)] (fun (rv : Int32) (uo : (Nat → Int)) => ((rv = nI 1 ∧ (gcdN G n ≠ 0)) ∨ (rv = nI 0 ∧ ¬ (gcdN G n ≠ 0))) ∧ (gcdN G n ≠ 0 → ∀ k, k < n → uo k = (G k).tdiv (dvN G n))) (fun (uo : (Nat → Int)) => [(a, LA cJ 4 uo)]) 0 0 := by
  refine xoz (cc := b_K_clearDivisor) (maxL := 9) (by decide) rfl (Nat.le_of_ble_eq_true rfl) (fun r u h => by rcases h.1 with h | h; exact Or.inr h.1; exact Or.inl h.1) ?_
  intro p e s m args below meth c Q A hx hb hml hts hown hN hA hS hP hK hD hret ls hl
  have hl : lv_has ls 9 [(0, .ref a), (1, .int (nI n))] := hl
  obtain ⟨H, hH⟩ : ∃ z, z = s.heap := ⟨_, rfl⟩
  obtain ⟨locs, hlc⟩ : ∃ z : List Loc, z = [] := ⟨_, rfl⟩
  rw [← hH] at hP
  have hS : va_S A s.heap H locs := by rw [hH, hlc]; exact hS
  have key : W p l e rm_c_clear s m args below meth c H locs 0 0 Q (F0 m 0 ls []) := by
    refine lv_lconst (v := lI 0) hx hb d_K_clearDivisor_0 (by decide) ?_
    refine lv_lstore_n (lv' := [(2, .long (lI 0)), (0, .ref a), (1, .int (nI n))]) hx hb d_K_clearDivisor_1 rfl hl (by decide) rfl (fun ls hl => ?_)
    refine lv_lconst (v := lI 0) hx hb d_K_clearDivisor_2 (by decide) ?_
    refine lv_lstore (lv' := [(4, .long (lI 0)), (2, .long (lI 0)), (0, .ref a), (1, .int (nI n))]) hx hb d_K_clearDivisor_3 hl (by decide) rfl (fun ls hl => ?_)
    refine lv_iconst (v := nI 0) hx hb d_K_clearDivisor_5 (by decide) ?_
    refine lv_istore (lv' := [(6, .int (nI 0)), (4, .long (lI 0)), (2, .long (lI 0)), (0, .ref a), (1, .int (nI n))]) hx hb d_K_clearDivisor_6 hl (by decide) rfl (fun ls hl => ?_)
    have lp_8 : ∀ (n_8 : Nat) (i : Nat) (H : Heap) (locs : List Loc) (ls : Array Slot), (i ≤ n) → (n - i) < n_8 → va_P D vwC [(a, LA cJ 4 G)] H → va_D A [(a, LA cJ 4 G)] → va_S A s.heap H locs → lv_has ls 9 [(0, .ref a), (1, .int (nI n)), (2, .long (lI ((gcdN G i : Nat) : Int))), (4, .long (lI (leadN G i))), (6, .int (nI i))] → W p l e rm_c_clear s m args below meth c H locs 0 0 Q (F0 m 8 ls []) := by
      intro n_8
      induction n_8 with
      | zero => intro i H locs ls hi hn_8; exact absurd hn_8 (Nat.not_lt_zero _)
      | succ n_8 ih_8 =>
        intro i H locs ls hi hn_8 hP hD hS hl
        have hgl : gcdN G i < 2 ^ 40 := gcdN_lt (by decide) (fun k hk => hG k (by omega))
        have hll : (leadN G i).natAbs < 2 ^ 40 := leadN_lt (by decide) (fun k hk => hG k (by omega))
        refine lv_iload hx hb d_K_clearDivisor_8 (lv_at hl 4 rfl) ?_
        refine lv_iload_n hx hb d_K_clearDivisor_10 rfl (lv_at hl 1 rfl) ?_
        refine xn_ge (tgt := 47) hx hb (by omega) (by omega) d_K_clearDivisor_11 (by decide) (fun c11_0 => ?_) (fun c11_0 => ?_)
        · skip
          have hin : n = i := by omega
          subst hin
          refine lv_lload_n hx hb d_K_clearDivisor_47 rfl (lv_at hl 2 rfl) ?_
          refine lv_lconst (v := lI 0) hx hb d_K_clearDivisor_48 (by decide) ?_
          refine xl_ne (tgt := 55) hx hb (by unfold lB; omega) ⟨by decide, by decide⟩ d_K_clearDivisor_49 d_K_clearDivisor_50 (by decide) (fun c50_1 => ?_) (fun c50_1 => ?_)
          · skip
            refine lv_lload hx hb d_K_clearDivisor_55 (lv_at hl 3 rfl) ?_
            refine lv_lconst (v := lI 0) hx hb d_K_clearDivisor_57 (by decide) ?_
            refine xl_ge (tgt := 67) hx hb (by unfold lB; omega) ⟨by decide, by decide⟩ d_K_clearDivisor_58 d_K_clearDivisor_59 (by decide) (fun c59_2 => ?_) (fun c59_2 => ?_)
            · skip
              refine lv_lload_n hx hb d_K_clearDivisor_67 rfl (lv_at hl 2 rfl) ?_
              have hdv : dvN G n = ((gcdN G n : Nat) : Int) := if_neg (by omega)
              rw [← hdv]
              refine lv_lstore (lv' := [(6, .long (lI (dvN G n))), (0, .ref a), (1, .int (nI n)), (2, .long (lI ((gcdN G n : Nat) : Int))), (4, .long (lI (leadN G n)))]) hx hb d_K_clearDivisor_68 hl (by decide) rfl (fun ls hl => ?_)
              refine lv_iconst (v := nI 0) hx hb d_K_clearDivisor_70 (by decide) ?_
              refine lv_istore (lv' := [(8, .int (nI 0)), (6, .long (lI (dvN G n))), (0, .ref a), (1, .int (nI n)), (2, .long (lI ((gcdN G n : Nat) : Int))), (4, .long (lI (leadN G n)))]) hx hb d_K_clearDivisor_71 hl (by decide) rfl (fun ls hl => ?_)
              have lp_73 : ∀ (n_73 : Nat) (j : Nat) (G3 : Nat → Int) (H : Heap) (locs : List Loc) (ls : Array Slot), (j ≤ n) → (∀ k, k < n → G3 k = if k < j then (G k).tdiv (dvN G n) else G k) → (n - j) < n_73 → va_P D vwC [(a, LA cJ 4 G3)] H → va_D A [(a, LA cJ 4 G3)] → va_S A s.heap H locs → lv_has ls 9 [(0, .ref a), (1, .int (nI n)), (6, .long (lI (dvN G n))), (8, .int (nI j))] → W p l e rm_c_clear s m args below meth c H locs 0 0 Q (F0 m 73 ls []) := by
                intro n_73
                induction n_73 with
                | zero => intro j G3 H locs ls hj h3 hn_73; exact absurd hn_73 (Nat.not_lt_zero _)
                | succ n_73 ih_73 =>
                  intro j G3 H locs ls hj h3 hn_73 hP hD hS hl
                  refine lv_iload hx hb d_K_clearDivisor_73 (lv_at hl 3 rfl) ?_
                  refine lv_iload_n hx hb d_K_clearDivisor_75 rfl (lv_at hl 1 rfl) ?_
                  refine xn_ge (tgt := 94) hx hb (by omega) (by omega) d_K_clearDivisor_76 (by decide) (fun c76_3 => ?_) (fun c76_3 => ?_)
                  · skip
                    refine lv_iconst (v := nI 1) hx hb d_K_clearDivisor_94 (by decide) ?_
                    exact hret H locs _ ls (nI 1) G3 d_K_clearDivisor_95 ⟨Or.inl ⟨rfl, by omega⟩, fun _ k hk => (h3 k hk).trans (if_pos (by omega))⟩ hP hD hS
                  · skip
                    refine lv_aload_n hx hb d_K_clearDivisor_79 rfl (lv_at hl 0 rfl) ?_
                    refine lv_iload hx hb d_K_clearDivisor_80 (lv_at hl 3 rfl) ?_
                    refine lv_dup2_11 hx hb d_K_clearDivisor_82 rfl rfl ?_
                    refine xl_ald hx hb hK hP 0 0 rfl rfl (k := j) (by omega) (by first | decide | omega) d_K_clearDivisor_83 ?_
                    have hgj : G3 j = G j := (h3 j (by omega)).trans (if_neg (by omega))
                    have hgb := hG j (by omega)
                    refine lv_lload hx hb d_K_clearDivisor_84 (lv_at hl 2 rfl) ?_
                    refine xl_div hx hb (by unfold lB; omega) (by unfold lB; omega) (by omega) (by omega) d_K_clearDivisor_86 ?_
                    refine xl_ast hx hb hK hP hD hS 0 0 rfl rfl (k := j) (by omega) (by first | decide | omega) d_K_clearDivisor_87 (fun H locs hP hD hS => ?_)
                    have hP : va_P D vwC [(a, LA cJ 4 (upZ G3 j ((G3 j).tdiv (dvN G n))))] H := hP
                    have hD : va_D A [(a, LA cJ 4 (upZ G3 j ((G3 j).tdiv (dvN G n))))] := hD
                    refine lv_iinc (v := nI (j + 1)) (lv' := [(8, .int (nI (j + 1))), (0, .ref a), (1, .int (nI n)), (6, .long (lI (dvN G n)))]) hx hb d_K_clearDivisor_88 hl (k := 3) rfl (nI_add _ _) (by decide) rfl (fun ls hl => ?_)
                    refine lv_goto (tgt := 73) hx hb d_K_clearDivisor_91 (by decide) ?_
                    exact ih_73 (j + 1) (upZ G3 j ((G3 j).tdiv (dvN G n))) H locs ls (by omega) (fun k hk => by by_cases q : k = j; rw [q, upZ_at, if_pos (show j < j + 1 from by omega), h3 j (by omega), if_neg (show ¬ j < j from by omega)]; rw [upZ_ne (k := j) (j := k) _ _ q, h3 k hk]; by_cases q2 : k < j; rw [if_pos q2, if_pos (show k < j + 1 from by omega)]; rw [if_neg q2, if_neg (show ¬ k < j + 1 from by omega)]) (by omega) hP hD hS (lv_sub hl [1, 2, 3, 0] rfl)
              exact lp_73 ((n - 0) + 1) 0 G H locs ls (Nat.zero_le _) (fun k hk => rfl) (by omega) hP hD hS (lv_sub hl [2, 3, 1, 0] rfl)
            · skip
              refine lv_lload_n hx hb d_K_clearDivisor_62 rfl (lv_at hl 2 rfl) ?_
              refine xl_neg hx hb d_K_clearDivisor_63 ?_
              refine lv_goto (tgt := 68) hx hb d_K_clearDivisor_64 (by decide) ?_
              have hdv : dvN G n = -((gcdN G n : Nat) : Int) := if_pos (by omega)
              rw [← hdv]
              refine lv_lstore (lv' := [(6, .long (lI (dvN G n))), (0, .ref a), (1, .int (nI n)), (2, .long (lI ((gcdN G n : Nat) : Int))), (4, .long (lI (leadN G n)))]) hx hb d_K_clearDivisor_68 hl (by decide) rfl (fun ls hl => ?_)
              refine lv_iconst (v := nI 0) hx hb d_K_clearDivisor_70 (by decide) ?_
              refine lv_istore (lv' := [(8, .int (nI 0)), (6, .long (lI (dvN G n))), (0, .ref a), (1, .int (nI n)), (2, .long (lI ((gcdN G n : Nat) : Int))), (4, .long (lI (leadN G n)))]) hx hb d_K_clearDivisor_71 hl (by decide) rfl (fun ls hl => ?_)
              have lp_73 : ∀ (n_73 : Nat) (j : Nat) (G3 : Nat → Int) (H : Heap) (locs : List Loc) (ls : Array Slot), (j ≤ n) → (∀ k, k < n → G3 k = if k < j then (G k).tdiv (dvN G n) else G k) → (n - j) < n_73 → va_P D vwC [(a, LA cJ 4 G3)] H → va_D A [(a, LA cJ 4 G3)] → va_S A s.heap H locs → lv_has ls 9 [(0, .ref a), (1, .int (nI n)), (6, .long (lI (dvN G n))), (8, .int (nI j))] → W p l e rm_c_clear s m args below meth c H locs 0 0 Q (F0 m 73 ls []) := by
                intro n_73
                induction n_73 with
                | zero => intro j G3 H locs ls hj h3 hn_73; exact absurd hn_73 (Nat.not_lt_zero _)
                | succ n_73 ih_73 =>
                  intro j G3 H locs ls hj h3 hn_73 hP hD hS hl
                  refine lv_iload hx hb d_K_clearDivisor_73 (lv_at hl 3 rfl) ?_
                  refine lv_iload_n hx hb d_K_clearDivisor_75 rfl (lv_at hl 1 rfl) ?_
                  refine xn_ge (tgt := 94) hx hb (by omega) (by omega) d_K_clearDivisor_76 (by decide) (fun c76_4 => ?_) (fun c76_4 => ?_)
                  · skip
                    refine lv_iconst (v := nI 1) hx hb d_K_clearDivisor_94 (by decide) ?_
                    exact hret H locs _ ls (nI 1) G3 d_K_clearDivisor_95 ⟨Or.inl ⟨rfl, by omega⟩, fun _ k hk => (h3 k hk).trans (if_pos (by omega))⟩ hP hD hS
                  · skip
                    refine lv_aload_n hx hb d_K_clearDivisor_79 rfl (lv_at hl 0 rfl) ?_
                    refine lv_iload hx hb d_K_clearDivisor_80 (lv_at hl 3 rfl) ?_
                    refine lv_dup2_11 hx hb d_K_clearDivisor_82 rfl rfl ?_
                    refine xl_ald hx hb hK hP 0 0 rfl rfl (k := j) (by omega) (by first | decide | omega) d_K_clearDivisor_83 ?_
                    have hgj : G3 j = G j := (h3 j (by omega)).trans (if_neg (by omega))
                    have hgb := hG j (by omega)
                    refine lv_lload hx hb d_K_clearDivisor_84 (lv_at hl 2 rfl) ?_
                    refine xl_div hx hb (by unfold lB; omega) (by unfold lB; omega) (by omega) (by omega) d_K_clearDivisor_86 ?_
                    refine xl_ast hx hb hK hP hD hS 0 0 rfl rfl (k := j) (by omega) (by first | decide | omega) d_K_clearDivisor_87 (fun H locs hP hD hS => ?_)
                    have hP : va_P D vwC [(a, LA cJ 4 (upZ G3 j ((G3 j).tdiv (dvN G n))))] H := hP
                    have hD : va_D A [(a, LA cJ 4 (upZ G3 j ((G3 j).tdiv (dvN G n))))] := hD
                    refine lv_iinc (v := nI (j + 1)) (lv' := [(8, .int (nI (j + 1))), (0, .ref a), (1, .int (nI n)), (6, .long (lI (dvN G n)))]) hx hb d_K_clearDivisor_88 hl (k := 3) rfl (nI_add _ _) (by decide) rfl (fun ls hl => ?_)
                    refine lv_goto (tgt := 73) hx hb d_K_clearDivisor_91 (by decide) ?_
                    exact ih_73 (j + 1) (upZ G3 j ((G3 j).tdiv (dvN G n))) H locs ls (by omega) (fun k hk => by by_cases q : k = j; rw [q, upZ_at, if_pos (show j < j + 1 from by omega), h3 j (by omega), if_neg (show ¬ j < j from by omega)]; rw [upZ_ne (k := j) (j := k) _ _ q, h3 k hk]; by_cases q2 : k < j; rw [if_pos q2, if_pos (show k < j + 1 from by omega)]; rw [if_neg q2, if_neg (show ¬ k < j + 1 from by omega)]) (by omega) hP hD hS (lv_sub hl [1, 2, 3, 0] rfl)
              exact lp_73 ((n - 0) + 1) 0 G H locs ls (Nat.zero_le _) (fun k hk => rfl) (by omega) hP hD hS (lv_sub hl [2, 3, 1, 0] rfl)
          · skip
            refine lv_iconst (v := nI 0) hx hb d_K_clearDivisor_53 (by decide) ?_
            exact hret H locs _ ls (nI 0) G d_K_clearDivisor_54 ⟨Or.inr ⟨rfl, by omega⟩, fun q => absurd q (by omega)⟩ hP hD hS
        · skip
          refine lv_lload_n hx hb d_K_clearDivisor_14 rfl (lv_at hl 2 rfl) ?_
          refine lv_aload_n hx hb d_K_clearDivisor_15 rfl (lv_at hl 0 rfl) ?_
          refine lv_iload hx hb d_K_clearDivisor_16 (lv_at hl 4 rfl) ?_
          refine xl_ald hx hb hK hP 0 0 rfl rfl (k := i) (by omega) (by first | decide | omega) d_K_clearDivisor_18 ?_
          refine xcl (wc := []) (wr := [(a, LA cJ 4 G)]) hP hD hS hA [] [0] rfl rfl (by decide) (by decide) (va_runS (As := [.long (lI ((gcdN G i : Nat) : Int)), .long (lI (G i))]) (rest := []) ⟨hx, hb, hml, hown, hts⟩ (c_gcd l D cJ ((gcdN G i : Nat) : Int) (G i) (by show gcdN G i < 2 ^ 40; exact hgl) (hG i (by omega)) H.size) (cwS 2 hts (gS tw_179 tw_180 tw_1 tw_181) rfl rfl rfl ⟨rfl, hd_K_greatestDivisor⟩ ⟨Nat.le_of_ble_eq_true rfl, Nat.le_of_ble_eq_true rfl⟩) (xPreS hN hK (hP.sub (ws' := []) [] rfl) (hD.sub (ws' := []) [] (by decide) rfl)) rfl rfl hl.1 rfl (lv_room (Nat.le_of_ble_eq_true rfl)) d_K_clearDivisor_19 ⟨Nat.le_of_ble_eq_true rfl, Nat.le_of_ble_eq_true rfl⟩) (fun r_6 u_7 H locs hw_8 hP hD hS => ?_)
          try dsimp only at hw_8
          have hP : va_P D vwC [(a, LA cJ 4 G)] H := hP
          have hD : va_D A [(a, LA cJ 4 G)] := hD
          subst hw_8
          refine lv_lstore_n (lv' := [(2, .long (lI ((Nat.gcd ((gcdN G i : Nat) : Int).natAbs (G i).natAbs : Nat) : Int))), (0, .ref a), (1, .int (nI n)), (4, .long (lI (leadN G i))), (6, .int (nI i))]) hx hb d_K_clearDivisor_22 rfl hl (by decide) rfl (fun ls hl => ?_)
          refine lv_lload hx hb d_K_clearDivisor_23 (lv_at hl 3 rfl) ?_
          refine lv_lconst (v := lI 0) hx hb d_K_clearDivisor_25 (by decide) ?_
          refine xl_ne (tgt := 37) hx hb (by unfold lB; omega) ⟨by decide, by decide⟩ d_K_clearDivisor_26 d_K_clearDivisor_27 (by decide) (fun c27_8 => ?_) (fun c27_8 => ?_)
          · skip
            refine lv_lload hx hb d_K_clearDivisor_37 (lv_at hl 3 rfl) ?_
            have hld : leadN G (i + 1) = leadN G i := if_neg c27_8
            rw [← hld]
            refine lv_lstore (lv' := [(4, .long (lI (leadN G (i + 1)))), (2, .long (lI ((Nat.gcd ((gcdN G i : Nat) : Int).natAbs (G i).natAbs : Nat) : Int))), (0, .ref a), (1, .int (nI n)), (6, .int (nI i))]) hx hb d_K_clearDivisor_39 hl (by decide) rfl (fun ls hl => ?_)
            refine lv_iinc (v := nI (i + 1)) (lv' := [(6, .int (nI (i + 1))), (4, .long (lI (leadN G (i + 1)))), (2, .long (lI ((Nat.gcd ((gcdN G i : Nat) : Int).natAbs (G i).natAbs : Nat) : Int))), (0, .ref a), (1, .int (nI n))]) hx hb d_K_clearDivisor_41 hl (k := 4) rfl (nI_add _ _) (by decide) rfl (fun ls hl => ?_)
            refine lv_goto (tgt := 8) hx hb d_K_clearDivisor_44 (by decide) ?_
            exact ih_8 (i + 1) H locs ls (by omega) (by omega) hP hD hS (lv_sub hl [3, 4, 2, 1, 0] rfl)
          · skip
            refine lv_aload_n hx hb d_K_clearDivisor_30 rfl (lv_at hl 1 rfl) ?_
            refine lv_iload hx hb d_K_clearDivisor_31 (lv_at hl 4 rfl) ?_
            refine xl_ald hx hb hK hP 0 0 rfl rfl (k := i) (by omega) (by first | decide | omega) d_K_clearDivisor_33 ?_
            refine lv_goto (tgt := 39) hx hb d_K_clearDivisor_34 (by decide) ?_
            have hld : leadN G (i + 1) = G i := if_pos c27_8
            rw [← hld]
            refine lv_lstore (lv' := [(4, .long (lI (leadN G (i + 1)))), (2, .long (lI ((Nat.gcd ((gcdN G i : Nat) : Int).natAbs (G i).natAbs : Nat) : Int))), (0, .ref a), (1, .int (nI n)), (6, .int (nI i))]) hx hb d_K_clearDivisor_39 hl (by decide) rfl (fun ls hl => ?_)
            refine lv_iinc (v := nI (i + 1)) (lv' := [(6, .int (nI (i + 1))), (4, .long (lI (leadN G (i + 1)))), (2, .long (lI ((Nat.gcd ((gcdN G i : Nat) : Int).natAbs (G i).natAbs : Nat) : Int))), (0, .ref a), (1, .int (nI n))]) hx hb d_K_clearDivisor_41 hl (k := 4) rfl (nI_add _ _) (by decide) rfl (fun ls hl => ?_)
            refine lv_goto (tgt := 8) hx hb d_K_clearDivisor_44 (by decide) ?_
            exact ih_8 (i + 1) H locs ls (by omega) (by omega) hP hD hS (lv_sub hl [3, 4, 2, 1, 0] rfl)
    exact lp_8 ((n - 0) + 1) 0 H locs ls (Nat.zero_le _) (by omega) hP hD hS (lv_sub hl [3, 4, 2, 1, 0] rfl)
  rw [hH, hlc] at key; exact key
end
section
/-! the polynomial's coefficients and the adjugate, explicitly (wip/gen_fl.py) -/
def m2 (C : Nat → Int) (i j a b : Nat) : Int := C (4 * i + a) * C (4 * j + b) - C (4 * i + b) * C (4 * j + a)
def m3 (C : Nat → Int) (i j k a b c : Nat) : Int := C (4 * i + a) * m2 C j k b c - C (4 * i + b) * m2 C j k a c + C (4 * i + c) * m2 C j k a b
def m4 (C : Nat → Int) : Int := C 0 * m3 C 1 2 3 1 2 3 - C 1 * m3 C 1 2 3 0 2 3 + C 2 * m3 C 1 2 3 0 1 3 - C 3 * m3 C 1 2 3 0 1 2
/-- sums of principal minors -/
def eS (C : Nat → Int) (r k : Nat) : Int := match r, k with
  | _, 0 => 1
  | 2, 1 => C 0 + C 5
  | 3, 1 => C 0 + C 5 + C 10
  | 4, 1 => C 0 + C 5 + C 10 + C 15
  | 2, 2 => m2 C 0 1 0 1
  | 3, 2 => m2 C 0 1 0 1 + m2 C 0 2 0 2 + m2 C 1 2 1 2
  | 4, 2 => m2 C 0 1 0 1 + m2 C 0 2 0 2 + m2 C 0 3 0 3 + m2 C 1 2 1 2 + m2 C 1 3 1 3 + m2 C 2 3 2 3
  | 3, 3 => m3 C 0 1 2 0 1 2
  | 4, 3 => m3 C 0 1 2 0 1 2 + m3 C 0 1 3 0 1 3 + m3 C 0 2 3 0 2 3 + m3 C 1 2 3 1 2 3
  | 4, 4 => m4 C
  | _, _ => 0
/-- the adjugate -/
def adjM (C : Nat → Int) (r i j : Nat) : Int := match r, i, j with
  | 2, 0, 0 => C 5
  | 2, 0, 1 => -(C 1)
  | 2, 1, 0 => -(C 4)
  | 2, 1, 1 => C 0
  | 3, 0, 0 => m2 C 1 2 1 2
  | 3, 0, 1 => -(m2 C 0 2 1 2)
  | 3, 0, 2 => m2 C 0 1 1 2
  | 3, 1, 0 => -(m2 C 1 2 0 2)
  | 3, 1, 1 => m2 C 0 2 0 2
  | 3, 1, 2 => -(m2 C 0 1 0 2)
  | 3, 2, 0 => m2 C 1 2 0 1
  | 3, 2, 1 => -(m2 C 0 2 0 1)
  | 3, 2, 2 => m2 C 0 1 0 1
  | 4, 0, 0 => m3 C 1 2 3 1 2 3
  | 4, 0, 1 => -(m3 C 0 2 3 1 2 3)
  | 4, 0, 2 => m3 C 0 1 3 1 2 3
  | 4, 0, 3 => -(m3 C 0 1 2 1 2 3)
  | 4, 1, 0 => -(m3 C 1 2 3 0 2 3)
  | 4, 1, 1 => m3 C 0 2 3 0 2 3
  | 4, 1, 2 => -(m3 C 0 1 3 0 2 3)
  | 4, 1, 3 => m3 C 0 1 2 0 2 3
  | 4, 2, 0 => m3 C 1 2 3 0 1 3
  | 4, 2, 1 => -(m3 C 0 2 3 0 1 3)
  | 4, 2, 2 => m3 C 0 1 3 0 1 3
  | 4, 2, 3 => -(m3 C 0 1 2 0 1 3)
  | 4, 3, 0 => -(m3 C 1 2 3 0 1 2)
  | 4, 3, 1 => m3 C 0 2 3 0 1 2
  | 4, 3, 2 => -(m3 C 0 1 3 0 1 2)
  | 4, 3, 3 => m3 C 0 1 2 0 1 2
  | _, _, _ => 0
theorem fp2_00 (C : Nat → Int) (k : Nat) : (flM C 2 (k + 1)).1 0 = 0 + C 0 * flF C 2 k 0 + C 1 * flF C 2 k 4 := rfl
theorem ff2_00 (C : Nat → Int) (k : Nat) : flF C 2 k 0 = (flM C 2 k).1 0 + (flM C 2 k).2 := rfl
theorem fp2_01 (C : Nat → Int) (k : Nat) : (flM C 2 (k + 1)).1 1 = 0 + C 0 * flF C 2 k 1 + C 1 * flF C 2 k 5 := rfl
theorem ff2_01 (C : Nat → Int) (k : Nat) : flF C 2 k 1 = (flM C 2 k).1 1 + 0 := rfl
theorem fp2_10 (C : Nat → Int) (k : Nat) : (flM C 2 (k + 1)).1 4 = 0 + C 4 * flF C 2 k 0 + C 5 * flF C 2 k 4 := rfl
theorem ff2_10 (C : Nat → Int) (k : Nat) : flF C 2 k 4 = (flM C 2 k).1 4 + 0 := rfl
theorem fp2_11 (C : Nat → Int) (k : Nat) : (flM C 2 (k + 1)).1 5 = 0 + C 4 * flF C 2 k 1 + C 5 * flF C 2 k 5 := rfl
theorem ff2_11 (C : Nat → Int) (k : Nat) : flF C 2 k 5 = (flM C 2 k).1 5 + (flM C 2 k).2 := rfl
theorem fd2 (C : Nat → Int) (k : Nat) : diaN (flM C 2 k).1 2 = 0 + (flM C 2 k).1 0 + (flM C 2 k).1 5 := rfl
theorem g1_2_00 (C : Nat → Int) : (flM C 2 (0 + 1)).1 0 = C 0 := by
  rw [fp2_00]
  show 0 + C 0 * (0 + 1) + C 1 * (0 + 0) = _
  omega
theorem g1_2_01 (C : Nat → Int) : (flM C 2 (0 + 1)).1 1 = C 1 := by
  rw [fp2_01]
  show 0 + C 0 * (0 + 0) + C 1 * (0 + 1) = _
  omega
theorem g1_2_10 (C : Nat → Int) : (flM C 2 (0 + 1)).1 4 = C 4 := by
  rw [fp2_10]
  show 0 + C 4 * (0 + 1) + C 5 * (0 + 0) = _
  omega
theorem g1_2_11 (C : Nat → Int) : (flM C 2 (0 + 1)).1 5 = C 5 := by
  rw [fp2_11]
  show 0 + C 4 * (0 + 0) + C 5 * (0 + 1) = _
  omega
theorem d1_2 (C : Nat → Int) : -(diaN (flM C 2 (0 + 1)).1 2) = 1 * -(eS C 2 1) := by
  rw [fd2, g1_2_00, g1_2_11]
  show _ = 1 * -(C 0 + C 5)
  omega
theorem e1_2 (C : Nat → Int) : (flM C 2 (0 + 1)).2 = -(eS C 2 1) := by
  rw [flM_2, d1_2]
  exact Int.mul_tdiv_cancel_left _ (by decide)
theorem f2_2_00 (C : Nat → Int) : flF C 2 1 0 = C 0 - eS C 2 1 := by
  rw [ff2_00, show (flM C 2 1).1 0 = C 0 from g1_2_00 C, show (flM C 2 1).2 = _ from e1_2 C]; rfl
theorem f2_2_01 (C : Nat → Int) : flF C 2 1 1 = C 1 := by
  rw [ff2_01, show (flM C 2 1).1 1 = C 1 from g1_2_01 C]; omega
theorem f2_2_10 (C : Nat → Int) : flF C 2 1 4 = C 4 := by
  rw [ff2_10, show (flM C 2 1).1 4 = C 4 from g1_2_10 C]; omega
theorem f2_2_11 (C : Nat → Int) : flF C 2 1 5 = C 5 - eS C 2 1 := by
  rw [ff2_11, show (flM C 2 1).1 5 = C 5 from g1_2_11 C, show (flM C 2 1).2 = _ from e1_2 C]; rfl
theorem g2_2_00 (C : Nat → Int) : (flM C 2 (1 + 1)).1 0 = 0 + (C 0 * (C 0 - eS C 2 1) + C 1 * C 4) := by
  rw [fp2_00, f2_2_00, f2_2_10]; omega
theorem g2_2_01 (C : Nat → Int) : (flM C 2 (1 + 1)).1 1 = 0 + (C 0 * C 1 + C 1 * (C 5 - eS C 2 1)) := by
  rw [fp2_01, f2_2_01, f2_2_11]; omega
theorem g2_2_10 (C : Nat → Int) : (flM C 2 (1 + 1)).1 4 = 0 + (C 4 * (C 0 - eS C 2 1) + C 5 * C 4) := by
  rw [fp2_10, f2_2_00, f2_2_10]; omega
theorem g2_2_11 (C : Nat → Int) : (flM C 2 (1 + 1)).1 5 = 0 + (C 4 * C 1 + C 5 * (C 5 - eS C 2 1)) := by
  rw [fp2_11, f2_2_01, f2_2_11]; omega
theorem d2_2 (C : Nat → Int) : -(diaN (flM C 2 (1 + 1)).1 2) = 2 * eS C 2 2 := by
  rw [fd2, g2_2_00, g2_2_11]
  simp only [eS, m2]
  grind
theorem e2_2 (C : Nat → Int) : (flM C 2 (1 + 1)).2 = eS C 2 2 := by
  rw [flM_2, d2_2]
  exact Int.mul_tdiv_cancel_left _ (by decide)
theorem fp3_00 (C : Nat → Int) (k : Nat) : (flM C 3 (k + 1)).1 0 = 0 + C 0 * flF C 3 k 0 + C 1 * flF C 3 k 4 + C 2 * flF C 3 k 8 := rfl
theorem ff3_00 (C : Nat → Int) (k : Nat) : flF C 3 k 0 = (flM C 3 k).1 0 + (flM C 3 k).2 := rfl
theorem fp3_01 (C : Nat → Int) (k : Nat) : (flM C 3 (k + 1)).1 1 = 0 + C 0 * flF C 3 k 1 + C 1 * flF C 3 k 5 + C 2 * flF C 3 k 9 := rfl
theorem ff3_01 (C : Nat → Int) (k : Nat) : flF C 3 k 1 = (flM C 3 k).1 1 + 0 := rfl
theorem fp3_02 (C : Nat → Int) (k : Nat) : (flM C 3 (k + 1)).1 2 = 0 + C 0 * flF C 3 k 2 + C 1 * flF C 3 k 6 + C 2 * flF C 3 k 10 := rfl
theorem ff3_02 (C : Nat → Int) (k : Nat) : flF C 3 k 2 = (flM C 3 k).1 2 + 0 := rfl
theorem fp3_10 (C : Nat → Int) (k : Nat) : (flM C 3 (k + 1)).1 4 = 0 + C 4 * flF C 3 k 0 + C 5 * flF C 3 k 4 + C 6 * flF C 3 k 8 := rfl
theorem ff3_10 (C : Nat → Int) (k : Nat) : flF C 3 k 4 = (flM C 3 k).1 4 + 0 := rfl
theorem fp3_11 (C : Nat → Int) (k : Nat) : (flM C 3 (k + 1)).1 5 = 0 + C 4 * flF C 3 k 1 + C 5 * flF C 3 k 5 + C 6 * flF C 3 k 9 := rfl
theorem ff3_11 (C : Nat → Int) (k : Nat) : flF C 3 k 5 = (flM C 3 k).1 5 + (flM C 3 k).2 := rfl
theorem fp3_12 (C : Nat → Int) (k : Nat) : (flM C 3 (k + 1)).1 6 = 0 + C 4 * flF C 3 k 2 + C 5 * flF C 3 k 6 + C 6 * flF C 3 k 10 := rfl
theorem ff3_12 (C : Nat → Int) (k : Nat) : flF C 3 k 6 = (flM C 3 k).1 6 + 0 := rfl
theorem fp3_20 (C : Nat → Int) (k : Nat) : (flM C 3 (k + 1)).1 8 = 0 + C 8 * flF C 3 k 0 + C 9 * flF C 3 k 4 + C 10 * flF C 3 k 8 := rfl
theorem ff3_20 (C : Nat → Int) (k : Nat) : flF C 3 k 8 = (flM C 3 k).1 8 + 0 := rfl
theorem fp3_21 (C : Nat → Int) (k : Nat) : (flM C 3 (k + 1)).1 9 = 0 + C 8 * flF C 3 k 1 + C 9 * flF C 3 k 5 + C 10 * flF C 3 k 9 := rfl
theorem ff3_21 (C : Nat → Int) (k : Nat) : flF C 3 k 9 = (flM C 3 k).1 9 + 0 := rfl
theorem fp3_22 (C : Nat → Int) (k : Nat) : (flM C 3 (k + 1)).1 10 = 0 + C 8 * flF C 3 k 2 + C 9 * flF C 3 k 6 + C 10 * flF C 3 k 10 := rfl
theorem ff3_22 (C : Nat → Int) (k : Nat) : flF C 3 k 10 = (flM C 3 k).1 10 + (flM C 3 k).2 := rfl
theorem fd3 (C : Nat → Int) (k : Nat) : diaN (flM C 3 k).1 3 = 0 + (flM C 3 k).1 0 + (flM C 3 k).1 5 + (flM C 3 k).1 10 := rfl
theorem g1_3_00 (C : Nat → Int) : (flM C 3 (0 + 1)).1 0 = C 0 := by
  rw [fp3_00]
  show 0 + C 0 * (0 + 1) + C 1 * (0 + 0) + C 2 * (0 + 0) = _
  omega
theorem g1_3_01 (C : Nat → Int) : (flM C 3 (0 + 1)).1 1 = C 1 := by
  rw [fp3_01]
  show 0 + C 0 * (0 + 0) + C 1 * (0 + 1) + C 2 * (0 + 0) = _
  omega
theorem g1_3_02 (C : Nat → Int) : (flM C 3 (0 + 1)).1 2 = C 2 := by
  rw [fp3_02]
  show 0 + C 0 * (0 + 0) + C 1 * (0 + 0) + C 2 * (0 + 1) = _
  omega
theorem g1_3_10 (C : Nat → Int) : (flM C 3 (0 + 1)).1 4 = C 4 := by
  rw [fp3_10]
  show 0 + C 4 * (0 + 1) + C 5 * (0 + 0) + C 6 * (0 + 0) = _
  omega
theorem g1_3_11 (C : Nat → Int) : (flM C 3 (0 + 1)).1 5 = C 5 := by
  rw [fp3_11]
  show 0 + C 4 * (0 + 0) + C 5 * (0 + 1) + C 6 * (0 + 0) = _
  omega
theorem g1_3_12 (C : Nat → Int) : (flM C 3 (0 + 1)).1 6 = C 6 := by
  rw [fp3_12]
  show 0 + C 4 * (0 + 0) + C 5 * (0 + 0) + C 6 * (0 + 1) = _
  omega
theorem g1_3_20 (C : Nat → Int) : (flM C 3 (0 + 1)).1 8 = C 8 := by
  rw [fp3_20]
  show 0 + C 8 * (0 + 1) + C 9 * (0 + 0) + C 10 * (0 + 0) = _
  omega
theorem g1_3_21 (C : Nat → Int) : (flM C 3 (0 + 1)).1 9 = C 9 := by
  rw [fp3_21]
  show 0 + C 8 * (0 + 0) + C 9 * (0 + 1) + C 10 * (0 + 0) = _
  omega
theorem g1_3_22 (C : Nat → Int) : (flM C 3 (0 + 1)).1 10 = C 10 := by
  rw [fp3_22]
  show 0 + C 8 * (0 + 0) + C 9 * (0 + 0) + C 10 * (0 + 1) = _
  omega
theorem d1_3 (C : Nat → Int) : -(diaN (flM C 3 (0 + 1)).1 3) = 1 * -(eS C 3 1) := by
  rw [fd3, g1_3_00, g1_3_11, g1_3_22]
  show _ = 1 * -(C 0 + C 5 + C 10)
  omega
theorem e1_3 (C : Nat → Int) : (flM C 3 (0 + 1)).2 = -(eS C 3 1) := by
  rw [flM_2, d1_3]
  exact Int.mul_tdiv_cancel_left _ (by decide)
theorem f2_3_00 (C : Nat → Int) : flF C 3 1 0 = C 0 - eS C 3 1 := by
  rw [ff3_00, show (flM C 3 1).1 0 = C 0 from g1_3_00 C, show (flM C 3 1).2 = _ from e1_3 C]; rfl
theorem f2_3_01 (C : Nat → Int) : flF C 3 1 1 = C 1 := by
  rw [ff3_01, show (flM C 3 1).1 1 = C 1 from g1_3_01 C]; omega
theorem f2_3_02 (C : Nat → Int) : flF C 3 1 2 = C 2 := by
  rw [ff3_02, show (flM C 3 1).1 2 = C 2 from g1_3_02 C]; omega
theorem f2_3_10 (C : Nat → Int) : flF C 3 1 4 = C 4 := by
  rw [ff3_10, show (flM C 3 1).1 4 = C 4 from g1_3_10 C]; omega
theorem f2_3_11 (C : Nat → Int) : flF C 3 1 5 = C 5 - eS C 3 1 := by
  rw [ff3_11, show (flM C 3 1).1 5 = C 5 from g1_3_11 C, show (flM C 3 1).2 = _ from e1_3 C]; rfl
theorem f2_3_12 (C : Nat → Int) : flF C 3 1 6 = C 6 := by
  rw [ff3_12, show (flM C 3 1).1 6 = C 6 from g1_3_12 C]; omega
theorem f2_3_20 (C : Nat → Int) : flF C 3 1 8 = C 8 := by
  rw [ff3_20, show (flM C 3 1).1 8 = C 8 from g1_3_20 C]; omega
theorem f2_3_21 (C : Nat → Int) : flF C 3 1 9 = C 9 := by
  rw [ff3_21, show (flM C 3 1).1 9 = C 9 from g1_3_21 C]; omega
theorem f2_3_22 (C : Nat → Int) : flF C 3 1 10 = C 10 - eS C 3 1 := by
  rw [ff3_22, show (flM C 3 1).1 10 = C 10 from g1_3_22 C, show (flM C 3 1).2 = _ from e1_3 C]; rfl
theorem g2_3_00 (C : Nat → Int) : (flM C 3 (1 + 1)).1 0 = 0 + (C 0 * (C 0 - eS C 3 1) + C 1 * C 4 + C 2 * C 8) := by
  rw [fp3_00, f2_3_00, f2_3_10, f2_3_20]; omega
theorem g2_3_01 (C : Nat → Int) : (flM C 3 (1 + 1)).1 1 = 0 + (C 0 * C 1 + C 1 * (C 5 - eS C 3 1) + C 2 * C 9) := by
  rw [fp3_01, f2_3_01, f2_3_11, f2_3_21]; omega
theorem g2_3_02 (C : Nat → Int) : (flM C 3 (1 + 1)).1 2 = 0 + (C 0 * C 2 + C 1 * C 6 + C 2 * (C 10 - eS C 3 1)) := by
  rw [fp3_02, f2_3_02, f2_3_12, f2_3_22]; omega
theorem g2_3_10 (C : Nat → Int) : (flM C 3 (1 + 1)).1 4 = 0 + (C 4 * (C 0 - eS C 3 1) + C 5 * C 4 + C 6 * C 8) := by
  rw [fp3_10, f2_3_00, f2_3_10, f2_3_20]; omega
theorem g2_3_11 (C : Nat → Int) : (flM C 3 (1 + 1)).1 5 = 0 + (C 4 * C 1 + C 5 * (C 5 - eS C 3 1) + C 6 * C 9) := by
  rw [fp3_11, f2_3_01, f2_3_11, f2_3_21]; omega
theorem g2_3_12 (C : Nat → Int) : (flM C 3 (1 + 1)).1 6 = 0 + (C 4 * C 2 + C 5 * C 6 + C 6 * (C 10 - eS C 3 1)) := by
  rw [fp3_12, f2_3_02, f2_3_12, f2_3_22]; omega
theorem g2_3_20 (C : Nat → Int) : (flM C 3 (1 + 1)).1 8 = 0 + (C 8 * (C 0 - eS C 3 1) + C 9 * C 4 + C 10 * C 8) := by
  rw [fp3_20, f2_3_00, f2_3_10, f2_3_20]; omega
theorem g2_3_21 (C : Nat → Int) : (flM C 3 (1 + 1)).1 9 = 0 + (C 8 * C 1 + C 9 * (C 5 - eS C 3 1) + C 10 * C 9) := by
  rw [fp3_21, f2_3_01, f2_3_11, f2_3_21]; omega
theorem g2_3_22 (C : Nat → Int) : (flM C 3 (1 + 1)).1 10 = 0 + (C 8 * C 2 + C 9 * C 6 + C 10 * (C 10 - eS C 3 1)) := by
  rw [fp3_22, f2_3_02, f2_3_12, f2_3_22]; omega
theorem d2_3 (C : Nat → Int) : -(diaN (flM C 3 (1 + 1)).1 3) = 2 * eS C 3 2 := by
  rw [fd3, g2_3_00, g2_3_11, g2_3_22]
  simp only [eS, m2]
  grind
theorem e2_3 (C : Nat → Int) : (flM C 3 (1 + 1)).2 = eS C 3 2 := by
  rw [flM_2, d2_3]
  exact Int.mul_tdiv_cancel_left _ (by decide)
theorem f3_3_00 (C : Nat → Int) : flF C 3 2 0 = adjM C 3 0 0 := by
  rw [ff3_00, show 2 = 1 + 1 from rfl, g2_3_00, e2_3]
  simp only [eS, adjM, m2]
  grind
theorem f3_3_01 (C : Nat → Int) : flF C 3 2 1 = adjM C 3 0 1 := by
  rw [ff3_01, show 2 = 1 + 1 from rfl, g2_3_01]
  simp only [eS, adjM, m2]
  grind
theorem f3_3_02 (C : Nat → Int) : flF C 3 2 2 = adjM C 3 0 2 := by
  rw [ff3_02, show 2 = 1 + 1 from rfl, g2_3_02]
  simp only [eS, adjM, m2]
  grind
theorem f3_3_10 (C : Nat → Int) : flF C 3 2 4 = adjM C 3 1 0 := by
  rw [ff3_10, show 2 = 1 + 1 from rfl, g2_3_10]
  simp only [eS, adjM, m2]
  grind
theorem f3_3_11 (C : Nat → Int) : flF C 3 2 5 = adjM C 3 1 1 := by
  rw [ff3_11, show 2 = 1 + 1 from rfl, g2_3_11, e2_3]
  simp only [eS, adjM, m2]
  grind
theorem f3_3_12 (C : Nat → Int) : flF C 3 2 6 = adjM C 3 1 2 := by
  rw [ff3_12, show 2 = 1 + 1 from rfl, g2_3_12]
  simp only [eS, adjM, m2]
  grind
theorem f3_3_20 (C : Nat → Int) : flF C 3 2 8 = adjM C 3 2 0 := by
  rw [ff3_20, show 2 = 1 + 1 from rfl, g2_3_20]
  simp only [eS, adjM, m2]
  grind
theorem f3_3_21 (C : Nat → Int) : flF C 3 2 9 = adjM C 3 2 1 := by
  rw [ff3_21, show 2 = 1 + 1 from rfl, g2_3_21]
  simp only [eS, adjM, m2]
  grind
theorem f3_3_22 (C : Nat → Int) : flF C 3 2 10 = adjM C 3 2 2 := by
  rw [ff3_22, show 2 = 1 + 1 from rfl, g2_3_22, e2_3]
  simp only [eS, adjM, m2]
  grind
theorem d3_3 (C : Nat → Int) : -(diaN (flM C 3 (2 + 1)).1 3) = 3 * -(eS C 3 3) := by
  rw [fd3, fp3_00, fp3_11, fp3_22, f3_3_00, f3_3_01, f3_3_02, f3_3_10, f3_3_11, f3_3_12, f3_3_20, f3_3_21, f3_3_22]
  simp only [eS, adjM, m2, m3]
  grind
theorem e3_3 (C : Nat → Int) : (flM C 3 (2 + 1)).2 = -(eS C 3 3) := by
  rw [flM_2, d3_3]
  exact Int.mul_tdiv_cancel_left _ (by decide)
theorem fp4_00 (C : Nat → Int) (k : Nat) : (flM C 4 (k + 1)).1 0 = 0 + C 0 * flF C 4 k 0 + C 1 * flF C 4 k 4 + C 2 * flF C 4 k 8 + C 3 * flF C 4 k 12 := rfl
theorem ff4_00 (C : Nat → Int) (k : Nat) : flF C 4 k 0 = (flM C 4 k).1 0 + (flM C 4 k).2 := rfl
theorem fp4_01 (C : Nat → Int) (k : Nat) : (flM C 4 (k + 1)).1 1 = 0 + C 0 * flF C 4 k 1 + C 1 * flF C 4 k 5 + C 2 * flF C 4 k 9 + C 3 * flF C 4 k 13 := rfl
theorem ff4_01 (C : Nat → Int) (k : Nat) : flF C 4 k 1 = (flM C 4 k).1 1 + 0 := rfl
theorem fp4_02 (C : Nat → Int) (k : Nat) : (flM C 4 (k + 1)).1 2 = 0 + C 0 * flF C 4 k 2 + C 1 * flF C 4 k 6 + C 2 * flF C 4 k 10 + C 3 * flF C 4 k 14 := rfl
theorem ff4_02 (C : Nat → Int) (k : Nat) : flF C 4 k 2 = (flM C 4 k).1 2 + 0 := rfl
theorem fp4_03 (C : Nat → Int) (k : Nat) : (flM C 4 (k + 1)).1 3 = 0 + C 0 * flF C 4 k 3 + C 1 * flF C 4 k 7 + C 2 * flF C 4 k 11 + C 3 * flF C 4 k 15 := rfl
theorem ff4_03 (C : Nat → Int) (k : Nat) : flF C 4 k 3 = (flM C 4 k).1 3 + 0 := rfl
theorem fp4_10 (C : Nat → Int) (k : Nat) : (flM C 4 (k + 1)).1 4 = 0 + C 4 * flF C 4 k 0 + C 5 * flF C 4 k 4 + C 6 * flF C 4 k 8 + C 7 * flF C 4 k 12 := rfl
theorem ff4_10 (C : Nat → Int) (k : Nat) : flF C 4 k 4 = (flM C 4 k).1 4 + 0 := rfl
theorem fp4_11 (C : Nat → Int) (k : Nat) : (flM C 4 (k + 1)).1 5 = 0 + C 4 * flF C 4 k 1 + C 5 * flF C 4 k 5 + C 6 * flF C 4 k 9 + C 7 * flF C 4 k 13 := rfl
theorem ff4_11 (C : Nat → Int) (k : Nat) : flF C 4 k 5 = (flM C 4 k).1 5 + (flM C 4 k).2 := rfl
theorem fp4_12 (C : Nat → Int) (k : Nat) : (flM C 4 (k + 1)).1 6 = 0 + C 4 * flF C 4 k 2 + C 5 * flF C 4 k 6 + C 6 * flF C 4 k 10 + C 7 * flF C 4 k 14 := rfl
theorem ff4_12 (C : Nat → Int) (k : Nat) : flF C 4 k 6 = (flM C 4 k).1 6 + 0 := rfl
theorem fp4_13 (C : Nat → Int) (k : Nat) : (flM C 4 (k + 1)).1 7 = 0 + C 4 * flF C 4 k 3 + C 5 * flF C 4 k 7 + C 6 * flF C 4 k 11 + C 7 * flF C 4 k 15 := rfl
theorem ff4_13 (C : Nat → Int) (k : Nat) : flF C 4 k 7 = (flM C 4 k).1 7 + 0 := rfl
theorem fp4_20 (C : Nat → Int) (k : Nat) : (flM C 4 (k + 1)).1 8 = 0 + C 8 * flF C 4 k 0 + C 9 * flF C 4 k 4 + C 10 * flF C 4 k 8 + C 11 * flF C 4 k 12 := rfl
theorem ff4_20 (C : Nat → Int) (k : Nat) : flF C 4 k 8 = (flM C 4 k).1 8 + 0 := rfl
theorem fp4_21 (C : Nat → Int) (k : Nat) : (flM C 4 (k + 1)).1 9 = 0 + C 8 * flF C 4 k 1 + C 9 * flF C 4 k 5 + C 10 * flF C 4 k 9 + C 11 * flF C 4 k 13 := rfl
theorem ff4_21 (C : Nat → Int) (k : Nat) : flF C 4 k 9 = (flM C 4 k).1 9 + 0 := rfl
theorem fp4_22 (C : Nat → Int) (k : Nat) : (flM C 4 (k + 1)).1 10 = 0 + C 8 * flF C 4 k 2 + C 9 * flF C 4 k 6 + C 10 * flF C 4 k 10 + C 11 * flF C 4 k 14 := rfl
theorem ff4_22 (C : Nat → Int) (k : Nat) : flF C 4 k 10 = (flM C 4 k).1 10 + (flM C 4 k).2 := rfl
theorem fp4_23 (C : Nat → Int) (k : Nat) : (flM C 4 (k + 1)).1 11 = 0 + C 8 * flF C 4 k 3 + C 9 * flF C 4 k 7 + C 10 * flF C 4 k 11 + C 11 * flF C 4 k 15 := rfl
theorem ff4_23 (C : Nat → Int) (k : Nat) : flF C 4 k 11 = (flM C 4 k).1 11 + 0 := rfl
theorem fp4_30 (C : Nat → Int) (k : Nat) : (flM C 4 (k + 1)).1 12 = 0 + C 12 * flF C 4 k 0 + C 13 * flF C 4 k 4 + C 14 * flF C 4 k 8 + C 15 * flF C 4 k 12 := rfl
theorem ff4_30 (C : Nat → Int) (k : Nat) : flF C 4 k 12 = (flM C 4 k).1 12 + 0 := rfl
theorem fp4_31 (C : Nat → Int) (k : Nat) : (flM C 4 (k + 1)).1 13 = 0 + C 12 * flF C 4 k 1 + C 13 * flF C 4 k 5 + C 14 * flF C 4 k 9 + C 15 * flF C 4 k 13 := rfl
theorem ff4_31 (C : Nat → Int) (k : Nat) : flF C 4 k 13 = (flM C 4 k).1 13 + 0 := rfl
theorem fp4_32 (C : Nat → Int) (k : Nat) : (flM C 4 (k + 1)).1 14 = 0 + C 12 * flF C 4 k 2 + C 13 * flF C 4 k 6 + C 14 * flF C 4 k 10 + C 15 * flF C 4 k 14 := rfl
theorem ff4_32 (C : Nat → Int) (k : Nat) : flF C 4 k 14 = (flM C 4 k).1 14 + 0 := rfl
theorem fp4_33 (C : Nat → Int) (k : Nat) : (flM C 4 (k + 1)).1 15 = 0 + C 12 * flF C 4 k 3 + C 13 * flF C 4 k 7 + C 14 * flF C 4 k 11 + C 15 * flF C 4 k 15 := rfl
theorem ff4_33 (C : Nat → Int) (k : Nat) : flF C 4 k 15 = (flM C 4 k).1 15 + (flM C 4 k).2 := rfl
theorem fd4 (C : Nat → Int) (k : Nat) : diaN (flM C 4 k).1 4 = 0 + (flM C 4 k).1 0 + (flM C 4 k).1 5 + (flM C 4 k).1 10 + (flM C 4 k).1 15 := rfl
theorem g1_4_00 (C : Nat → Int) : (flM C 4 (0 + 1)).1 0 = C 0 := by
  rw [fp4_00]
  show 0 + C 0 * (0 + 1) + C 1 * (0 + 0) + C 2 * (0 + 0) + C 3 * (0 + 0) = _
  omega
theorem g1_4_01 (C : Nat → Int) : (flM C 4 (0 + 1)).1 1 = C 1 := by
  rw [fp4_01]
  show 0 + C 0 * (0 + 0) + C 1 * (0 + 1) + C 2 * (0 + 0) + C 3 * (0 + 0) = _
  omega
theorem g1_4_02 (C : Nat → Int) : (flM C 4 (0 + 1)).1 2 = C 2 := by
  rw [fp4_02]
  show 0 + C 0 * (0 + 0) + C 1 * (0 + 0) + C 2 * (0 + 1) + C 3 * (0 + 0) = _
  omega
theorem g1_4_03 (C : Nat → Int) : (flM C 4 (0 + 1)).1 3 = C 3 := by
  rw [fp4_03]
  show 0 + C 0 * (0 + 0) + C 1 * (0 + 0) + C 2 * (0 + 0) + C 3 * (0 + 1) = _
  omega
theorem g1_4_10 (C : Nat → Int) : (flM C 4 (0 + 1)).1 4 = C 4 := by
  rw [fp4_10]
  show 0 + C 4 * (0 + 1) + C 5 * (0 + 0) + C 6 * (0 + 0) + C 7 * (0 + 0) = _
  omega
theorem g1_4_11 (C : Nat → Int) : (flM C 4 (0 + 1)).1 5 = C 5 := by
  rw [fp4_11]
  show 0 + C 4 * (0 + 0) + C 5 * (0 + 1) + C 6 * (0 + 0) + C 7 * (0 + 0) = _
  omega
theorem g1_4_12 (C : Nat → Int) : (flM C 4 (0 + 1)).1 6 = C 6 := by
  rw [fp4_12]
  show 0 + C 4 * (0 + 0) + C 5 * (0 + 0) + C 6 * (0 + 1) + C 7 * (0 + 0) = _
  omega
theorem g1_4_13 (C : Nat → Int) : (flM C 4 (0 + 1)).1 7 = C 7 := by
  rw [fp4_13]
  show 0 + C 4 * (0 + 0) + C 5 * (0 + 0) + C 6 * (0 + 0) + C 7 * (0 + 1) = _
  omega
theorem g1_4_20 (C : Nat → Int) : (flM C 4 (0 + 1)).1 8 = C 8 := by
  rw [fp4_20]
  show 0 + C 8 * (0 + 1) + C 9 * (0 + 0) + C 10 * (0 + 0) + C 11 * (0 + 0) = _
  omega
theorem g1_4_21 (C : Nat → Int) : (flM C 4 (0 + 1)).1 9 = C 9 := by
  rw [fp4_21]
  show 0 + C 8 * (0 + 0) + C 9 * (0 + 1) + C 10 * (0 + 0) + C 11 * (0 + 0) = _
  omega
theorem g1_4_22 (C : Nat → Int) : (flM C 4 (0 + 1)).1 10 = C 10 := by
  rw [fp4_22]
  show 0 + C 8 * (0 + 0) + C 9 * (0 + 0) + C 10 * (0 + 1) + C 11 * (0 + 0) = _
  omega
theorem g1_4_23 (C : Nat → Int) : (flM C 4 (0 + 1)).1 11 = C 11 := by
  rw [fp4_23]
  show 0 + C 8 * (0 + 0) + C 9 * (0 + 0) + C 10 * (0 + 0) + C 11 * (0 + 1) = _
  omega
theorem g1_4_30 (C : Nat → Int) : (flM C 4 (0 + 1)).1 12 = C 12 := by
  rw [fp4_30]
  show 0 + C 12 * (0 + 1) + C 13 * (0 + 0) + C 14 * (0 + 0) + C 15 * (0 + 0) = _
  omega
theorem g1_4_31 (C : Nat → Int) : (flM C 4 (0 + 1)).1 13 = C 13 := by
  rw [fp4_31]
  show 0 + C 12 * (0 + 0) + C 13 * (0 + 1) + C 14 * (0 + 0) + C 15 * (0 + 0) = _
  omega
theorem g1_4_32 (C : Nat → Int) : (flM C 4 (0 + 1)).1 14 = C 14 := by
  rw [fp4_32]
  show 0 + C 12 * (0 + 0) + C 13 * (0 + 0) + C 14 * (0 + 1) + C 15 * (0 + 0) = _
  omega
theorem g1_4_33 (C : Nat → Int) : (flM C 4 (0 + 1)).1 15 = C 15 := by
  rw [fp4_33]
  show 0 + C 12 * (0 + 0) + C 13 * (0 + 0) + C 14 * (0 + 0) + C 15 * (0 + 1) = _
  omega
theorem d1_4 (C : Nat → Int) : -(diaN (flM C 4 (0 + 1)).1 4) = 1 * -(eS C 4 1) := by
  rw [fd4, g1_4_00, g1_4_11, g1_4_22, g1_4_33]
  show _ = 1 * -(C 0 + C 5 + C 10 + C 15)
  omega
theorem e1_4 (C : Nat → Int) : (flM C 4 (0 + 1)).2 = -(eS C 4 1) := by
  rw [flM_2, d1_4]
  exact Int.mul_tdiv_cancel_left _ (by decide)
theorem f2_4_00 (C : Nat → Int) : flF C 4 1 0 = C 0 - eS C 4 1 := by
  rw [ff4_00, show (flM C 4 1).1 0 = C 0 from g1_4_00 C, show (flM C 4 1).2 = _ from e1_4 C]; rfl
theorem f2_4_01 (C : Nat → Int) : flF C 4 1 1 = C 1 := by
  rw [ff4_01, show (flM C 4 1).1 1 = C 1 from g1_4_01 C]; omega
theorem f2_4_02 (C : Nat → Int) : flF C 4 1 2 = C 2 := by
  rw [ff4_02, show (flM C 4 1).1 2 = C 2 from g1_4_02 C]; omega
theorem f2_4_03 (C : Nat → Int) : flF C 4 1 3 = C 3 := by
  rw [ff4_03, show (flM C 4 1).1 3 = C 3 from g1_4_03 C]; omega
theorem f2_4_10 (C : Nat → Int) : flF C 4 1 4 = C 4 := by
  rw [ff4_10, show (flM C 4 1).1 4 = C 4 from g1_4_10 C]; omega
theorem f2_4_11 (C : Nat → Int) : flF C 4 1 5 = C 5 - eS C 4 1 := by
  rw [ff4_11, show (flM C 4 1).1 5 = C 5 from g1_4_11 C, show (flM C 4 1).2 = _ from e1_4 C]; rfl
theorem f2_4_12 (C : Nat → Int) : flF C 4 1 6 = C 6 := by
  rw [ff4_12, show (flM C 4 1).1 6 = C 6 from g1_4_12 C]; omega
theorem f2_4_13 (C : Nat → Int) : flF C 4 1 7 = C 7 := by
  rw [ff4_13, show (flM C 4 1).1 7 = C 7 from g1_4_13 C]; omega
theorem f2_4_20 (C : Nat → Int) : flF C 4 1 8 = C 8 := by
  rw [ff4_20, show (flM C 4 1).1 8 = C 8 from g1_4_20 C]; omega
theorem f2_4_21 (C : Nat → Int) : flF C 4 1 9 = C 9 := by
  rw [ff4_21, show (flM C 4 1).1 9 = C 9 from g1_4_21 C]; omega
theorem f2_4_22 (C : Nat → Int) : flF C 4 1 10 = C 10 - eS C 4 1 := by
  rw [ff4_22, show (flM C 4 1).1 10 = C 10 from g1_4_22 C, show (flM C 4 1).2 = _ from e1_4 C]; rfl
theorem f2_4_23 (C : Nat → Int) : flF C 4 1 11 = C 11 := by
  rw [ff4_23, show (flM C 4 1).1 11 = C 11 from g1_4_23 C]; omega
theorem f2_4_30 (C : Nat → Int) : flF C 4 1 12 = C 12 := by
  rw [ff4_30, show (flM C 4 1).1 12 = C 12 from g1_4_30 C]; omega
theorem f2_4_31 (C : Nat → Int) : flF C 4 1 13 = C 13 := by
  rw [ff4_31, show (flM C 4 1).1 13 = C 13 from g1_4_31 C]; omega
theorem f2_4_32 (C : Nat → Int) : flF C 4 1 14 = C 14 := by
  rw [ff4_32, show (flM C 4 1).1 14 = C 14 from g1_4_32 C]; omega
theorem f2_4_33 (C : Nat → Int) : flF C 4 1 15 = C 15 - eS C 4 1 := by
  rw [ff4_33, show (flM C 4 1).1 15 = C 15 from g1_4_33 C, show (flM C 4 1).2 = _ from e1_4 C]; rfl
theorem g2_4_00 (C : Nat → Int) : (flM C 4 (1 + 1)).1 0 = 0 + (C 0 * (C 0 - eS C 4 1) + C 1 * C 4 + C 2 * C 8 + C 3 * C 12) := by
  rw [fp4_00, f2_4_00, f2_4_10, f2_4_20, f2_4_30]; omega
theorem g2_4_01 (C : Nat → Int) : (flM C 4 (1 + 1)).1 1 = 0 + (C 0 * C 1 + C 1 * (C 5 - eS C 4 1) + C 2 * C 9 + C 3 * C 13) := by
  rw [fp4_01, f2_4_01, f2_4_11, f2_4_21, f2_4_31]; omega
theorem g2_4_02 (C : Nat → Int) : (flM C 4 (1 + 1)).1 2 = 0 + (C 0 * C 2 + C 1 * C 6 + C 2 * (C 10 - eS C 4 1) + C 3 * C 14) := by
  rw [fp4_02, f2_4_02, f2_4_12, f2_4_22, f2_4_32]; omega
theorem g2_4_03 (C : Nat → Int) : (flM C 4 (1 + 1)).1 3 = 0 + (C 0 * C 3 + C 1 * C 7 + C 2 * C 11 + C 3 * (C 15 - eS C 4 1)) := by
  rw [fp4_03, f2_4_03, f2_4_13, f2_4_23, f2_4_33]; omega
theorem g2_4_10 (C : Nat → Int) : (flM C 4 (1 + 1)).1 4 = 0 + (C 4 * (C 0 - eS C 4 1) + C 5 * C 4 + C 6 * C 8 + C 7 * C 12) := by
  rw [fp4_10, f2_4_00, f2_4_10, f2_4_20, f2_4_30]; omega
theorem g2_4_11 (C : Nat → Int) : (flM C 4 (1 + 1)).1 5 = 0 + (C 4 * C 1 + C 5 * (C 5 - eS C 4 1) + C 6 * C 9 + C 7 * C 13) := by
  rw [fp4_11, f2_4_01, f2_4_11, f2_4_21, f2_4_31]; omega
theorem g2_4_12 (C : Nat → Int) : (flM C 4 (1 + 1)).1 6 = 0 + (C 4 * C 2 + C 5 * C 6 + C 6 * (C 10 - eS C 4 1) + C 7 * C 14) := by
  rw [fp4_12, f2_4_02, f2_4_12, f2_4_22, f2_4_32]; omega
theorem g2_4_13 (C : Nat → Int) : (flM C 4 (1 + 1)).1 7 = 0 + (C 4 * C 3 + C 5 * C 7 + C 6 * C 11 + C 7 * (C 15 - eS C 4 1)) := by
  rw [fp4_13, f2_4_03, f2_4_13, f2_4_23, f2_4_33]; omega
theorem g2_4_20 (C : Nat → Int) : (flM C 4 (1 + 1)).1 8 = 0 + (C 8 * (C 0 - eS C 4 1) + C 9 * C 4 + C 10 * C 8 + C 11 * C 12) := by
  rw [fp4_20, f2_4_00, f2_4_10, f2_4_20, f2_4_30]; omega
theorem g2_4_21 (C : Nat → Int) : (flM C 4 (1 + 1)).1 9 = 0 + (C 8 * C 1 + C 9 * (C 5 - eS C 4 1) + C 10 * C 9 + C 11 * C 13) := by
  rw [fp4_21, f2_4_01, f2_4_11, f2_4_21, f2_4_31]; omega
theorem g2_4_22 (C : Nat → Int) : (flM C 4 (1 + 1)).1 10 = 0 + (C 8 * C 2 + C 9 * C 6 + C 10 * (C 10 - eS C 4 1) + C 11 * C 14) := by
  rw [fp4_22, f2_4_02, f2_4_12, f2_4_22, f2_4_32]; omega
theorem g2_4_23 (C : Nat → Int) : (flM C 4 (1 + 1)).1 11 = 0 + (C 8 * C 3 + C 9 * C 7 + C 10 * C 11 + C 11 * (C 15 - eS C 4 1)) := by
  rw [fp4_23, f2_4_03, f2_4_13, f2_4_23, f2_4_33]; omega
theorem g2_4_30 (C : Nat → Int) : (flM C 4 (1 + 1)).1 12 = 0 + (C 12 * (C 0 - eS C 4 1) + C 13 * C 4 + C 14 * C 8 + C 15 * C 12) := by
  rw [fp4_30, f2_4_00, f2_4_10, f2_4_20, f2_4_30]; omega
theorem g2_4_31 (C : Nat → Int) : (flM C 4 (1 + 1)).1 13 = 0 + (C 12 * C 1 + C 13 * (C 5 - eS C 4 1) + C 14 * C 9 + C 15 * C 13) := by
  rw [fp4_31, f2_4_01, f2_4_11, f2_4_21, f2_4_31]; omega
theorem g2_4_32 (C : Nat → Int) : (flM C 4 (1 + 1)).1 14 = 0 + (C 12 * C 2 + C 13 * C 6 + C 14 * (C 10 - eS C 4 1) + C 15 * C 14) := by
  rw [fp4_32, f2_4_02, f2_4_12, f2_4_22, f2_4_32]; omega
theorem g2_4_33 (C : Nat → Int) : (flM C 4 (1 + 1)).1 15 = 0 + (C 12 * C 3 + C 13 * C 7 + C 14 * C 11 + C 15 * (C 15 - eS C 4 1)) := by
  rw [fp4_33, f2_4_03, f2_4_13, f2_4_23, f2_4_33]; omega
theorem d2_4 (C : Nat → Int) : -(diaN (flM C 4 (1 + 1)).1 4) = 2 * eS C 4 2 := by
  rw [fd4, g2_4_00, g2_4_11, g2_4_22, g2_4_33]
  simp only [eS, m2]
  grind
theorem e2_4 (C : Nat → Int) : (flM C 4 (1 + 1)).2 = eS C 4 2 := by
  rw [flM_2, d2_4]
  exact Int.mul_tdiv_cancel_left _ (by decide)
theorem f3_4_00 (C : Nat → Int) : flF C 4 2 0 = (C 0 * (C 0 - eS C 4 1) + C 1 * C 4 + C 2 * C 8 + C 3 * C 12) + eS C 4 2 := by
  rw [ff4_00, show 2 = 1 + 1 from rfl, g2_4_00, e2_4]
  simp only [eS, adjM, m2]
  grind
theorem f3_4_01 (C : Nat → Int) : flF C 4 2 1 = (C 0 * C 1 + C 1 * (C 5 - eS C 4 1) + C 2 * C 9 + C 3 * C 13) := by
  rw [ff4_01, show 2 = 1 + 1 from rfl, g2_4_01]
  simp only [eS, adjM, m2]
  grind
theorem f3_4_02 (C : Nat → Int) : flF C 4 2 2 = (C 0 * C 2 + C 1 * C 6 + C 2 * (C 10 - eS C 4 1) + C 3 * C 14) := by
  rw [ff4_02, show 2 = 1 + 1 from rfl, g2_4_02]
  simp only [eS, adjM, m2]
  grind
theorem f3_4_03 (C : Nat → Int) : flF C 4 2 3 = (C 0 * C 3 + C 1 * C 7 + C 2 * C 11 + C 3 * (C 15 - eS C 4 1)) := by
  rw [ff4_03, show 2 = 1 + 1 from rfl, g2_4_03]
  simp only [eS, adjM, m2]
  grind
theorem f3_4_10 (C : Nat → Int) : flF C 4 2 4 = (C 4 * (C 0 - eS C 4 1) + C 5 * C 4 + C 6 * C 8 + C 7 * C 12) := by
  rw [ff4_10, show 2 = 1 + 1 from rfl, g2_4_10]
  simp only [eS, adjM, m2]
  grind
theorem f3_4_11 (C : Nat → Int) : flF C 4 2 5 = (C 4 * C 1 + C 5 * (C 5 - eS C 4 1) + C 6 * C 9 + C 7 * C 13) + eS C 4 2 := by
  rw [ff4_11, show 2 = 1 + 1 from rfl, g2_4_11, e2_4]
  simp only [eS, adjM, m2]
  grind
theorem f3_4_12 (C : Nat → Int) : flF C 4 2 6 = (C 4 * C 2 + C 5 * C 6 + C 6 * (C 10 - eS C 4 1) + C 7 * C 14) := by
  rw [ff4_12, show 2 = 1 + 1 from rfl, g2_4_12]
  simp only [eS, adjM, m2]
  grind
theorem f3_4_13 (C : Nat → Int) : flF C 4 2 7 = (C 4 * C 3 + C 5 * C 7 + C 6 * C 11 + C 7 * (C 15 - eS C 4 1)) := by
  rw [ff4_13, show 2 = 1 + 1 from rfl, g2_4_13]
  simp only [eS, adjM, m2]
  grind
theorem f3_4_20 (C : Nat → Int) : flF C 4 2 8 = (C 8 * (C 0 - eS C 4 1) + C 9 * C 4 + C 10 * C 8 + C 11 * C 12) := by
  rw [ff4_20, show 2 = 1 + 1 from rfl, g2_4_20]
  simp only [eS, adjM, m2]
  grind
theorem f3_4_21 (C : Nat → Int) : flF C 4 2 9 = (C 8 * C 1 + C 9 * (C 5 - eS C 4 1) + C 10 * C 9 + C 11 * C 13) := by
  rw [ff4_21, show 2 = 1 + 1 from rfl, g2_4_21]
  simp only [eS, adjM, m2]
  grind
theorem f3_4_22 (C : Nat → Int) : flF C 4 2 10 = (C 8 * C 2 + C 9 * C 6 + C 10 * (C 10 - eS C 4 1) + C 11 * C 14) + eS C 4 2 := by
  rw [ff4_22, show 2 = 1 + 1 from rfl, g2_4_22, e2_4]
  simp only [eS, adjM, m2]
  grind
theorem f3_4_23 (C : Nat → Int) : flF C 4 2 11 = (C 8 * C 3 + C 9 * C 7 + C 10 * C 11 + C 11 * (C 15 - eS C 4 1)) := by
  rw [ff4_23, show 2 = 1 + 1 from rfl, g2_4_23]
  simp only [eS, adjM, m2]
  grind
theorem f3_4_30 (C : Nat → Int) : flF C 4 2 12 = (C 12 * (C 0 - eS C 4 1) + C 13 * C 4 + C 14 * C 8 + C 15 * C 12) := by
  rw [ff4_30, show 2 = 1 + 1 from rfl, g2_4_30]
  simp only [eS, adjM, m2]
  grind
theorem f3_4_31 (C : Nat → Int) : flF C 4 2 13 = (C 12 * C 1 + C 13 * (C 5 - eS C 4 1) + C 14 * C 9 + C 15 * C 13) := by
  rw [ff4_31, show 2 = 1 + 1 from rfl, g2_4_31]
  simp only [eS, adjM, m2]
  grind
theorem f3_4_32 (C : Nat → Int) : flF C 4 2 14 = (C 12 * C 2 + C 13 * C 6 + C 14 * (C 10 - eS C 4 1) + C 15 * C 14) := by
  rw [ff4_32, show 2 = 1 + 1 from rfl, g2_4_32]
  simp only [eS, adjM, m2]
  grind
theorem f3_4_33 (C : Nat → Int) : flF C 4 2 15 = (C 12 * C 3 + C 13 * C 7 + C 14 * C 11 + C 15 * (C 15 - eS C 4 1)) + eS C 4 2 := by
  rw [ff4_33, show 2 = 1 + 1 from rfl, g2_4_33, e2_4]
  simp only [eS, adjM, m2]
  grind
theorem d3_4 (C : Nat → Int) : -(diaN (flM C 4 (2 + 1)).1 4) = 3 * -(eS C 4 3) := by
  rw [fd4, fp4_00, fp4_11, fp4_22, fp4_33, f3_4_00, f3_4_01, f3_4_02, f3_4_03, f3_4_10, f3_4_11, f3_4_12, f3_4_13, f3_4_20, f3_4_21, f3_4_22, f3_4_23, f3_4_30, f3_4_31, f3_4_32, f3_4_33]
  simp only [eS, adjM, m2, m3]
  grind
theorem e3_4 (C : Nat → Int) : (flM C 4 (2 + 1)).2 = -(eS C 4 3) := by
  rw [flM_2, d3_4]
  exact Int.mul_tdiv_cancel_left _ (by decide)
theorem f4_4_00 (C : Nat → Int) : flF C 4 3 0 = -(adjM C 4 0 0) := by
  rw [ff4_00, show 3 = 2 + 1 from rfl, fp4_00, f3_4_00, f3_4_10, f3_4_20, f3_4_30, e3_4]
  simp only [eS, adjM, m2, m3]
  grind
theorem f4_4_01 (C : Nat → Int) : flF C 4 3 1 = -(adjM C 4 0 1) := by
  rw [ff4_01, show 3 = 2 + 1 from rfl, fp4_01, f3_4_01, f3_4_11, f3_4_21, f3_4_31]
  simp only [eS, adjM, m2, m3]
  grind
theorem f4_4_02 (C : Nat → Int) : flF C 4 3 2 = -(adjM C 4 0 2) := by
  rw [ff4_02, show 3 = 2 + 1 from rfl, fp4_02, f3_4_02, f3_4_12, f3_4_22, f3_4_32]
  simp only [eS, adjM, m2, m3]
  grind
theorem f4_4_03 (C : Nat → Int) : flF C 4 3 3 = -(adjM C 4 0 3) := by
  rw [ff4_03, show 3 = 2 + 1 from rfl, fp4_03, f3_4_03, f3_4_13, f3_4_23, f3_4_33]
  simp only [eS, adjM, m2, m3]
  grind
theorem f4_4_10 (C : Nat → Int) : flF C 4 3 4 = -(adjM C 4 1 0) := by
  rw [ff4_10, show 3 = 2 + 1 from rfl, fp4_10, f3_4_00, f3_4_10, f3_4_20, f3_4_30]
  simp only [eS, adjM, m2, m3]
  grind
theorem f4_4_11 (C : Nat → Int) : flF C 4 3 5 = -(adjM C 4 1 1) := by
  rw [ff4_11, show 3 = 2 + 1 from rfl, fp4_11, f3_4_01, f3_4_11, f3_4_21, f3_4_31, e3_4]
  simp only [eS, adjM, m2, m3]
  grind
theorem f4_4_12 (C : Nat → Int) : flF C 4 3 6 = -(adjM C 4 1 2) := by
  rw [ff4_12, show 3 = 2 + 1 from rfl, fp4_12, f3_4_02, f3_4_12, f3_4_22, f3_4_32]
  simp only [eS, adjM, m2, m3]
  grind
theorem f4_4_13 (C : Nat → Int) : flF C 4 3 7 = -(adjM C 4 1 3) := by
  rw [ff4_13, show 3 = 2 + 1 from rfl, fp4_13, f3_4_03, f3_4_13, f3_4_23, f3_4_33]
  simp only [eS, adjM, m2, m3]
  grind
theorem f4_4_20 (C : Nat → Int) : flF C 4 3 8 = -(adjM C 4 2 0) := by
  rw [ff4_20, show 3 = 2 + 1 from rfl, fp4_20, f3_4_00, f3_4_10, f3_4_20, f3_4_30]
  simp only [eS, adjM, m2, m3]
  grind
theorem f4_4_21 (C : Nat → Int) : flF C 4 3 9 = -(adjM C 4 2 1) := by
  rw [ff4_21, show 3 = 2 + 1 from rfl, fp4_21, f3_4_01, f3_4_11, f3_4_21, f3_4_31]
  simp only [eS, adjM, m2, m3]
  grind
theorem f4_4_22 (C : Nat → Int) : flF C 4 3 10 = -(adjM C 4 2 2) := by
  rw [ff4_22, show 3 = 2 + 1 from rfl, fp4_22, f3_4_02, f3_4_12, f3_4_22, f3_4_32, e3_4]
  simp only [eS, adjM, m2, m3]
  grind
theorem f4_4_23 (C : Nat → Int) : flF C 4 3 11 = -(adjM C 4 2 3) := by
  rw [ff4_23, show 3 = 2 + 1 from rfl, fp4_23, f3_4_03, f3_4_13, f3_4_23, f3_4_33]
  simp only [eS, adjM, m2, m3]
  grind
theorem f4_4_30 (C : Nat → Int) : flF C 4 3 12 = -(adjM C 4 3 0) := by
  rw [ff4_30, show 3 = 2 + 1 from rfl, fp4_30, f3_4_00, f3_4_10, f3_4_20, f3_4_30]
  simp only [eS, adjM, m2, m3]
  grind
theorem f4_4_31 (C : Nat → Int) : flF C 4 3 13 = -(adjM C 4 3 1) := by
  rw [ff4_31, show 3 = 2 + 1 from rfl, fp4_31, f3_4_01, f3_4_11, f3_4_21, f3_4_31]
  simp only [eS, adjM, m2, m3]
  grind
theorem f4_4_32 (C : Nat → Int) : flF C 4 3 14 = -(adjM C 4 3 2) := by
  rw [ff4_32, show 3 = 2 + 1 from rfl, fp4_32, f3_4_02, f3_4_12, f3_4_22, f3_4_32]
  simp only [eS, adjM, m2, m3]
  grind
theorem f4_4_33 (C : Nat → Int) : flF C 4 3 15 = -(adjM C 4 3 3) := by
  rw [ff4_33, show 3 = 2 + 1 from rfl, fp4_33, f3_4_03, f3_4_13, f3_4_23, f3_4_33, e3_4]
  simp only [eS, adjM, m2, m3]
  grind
theorem d4_4 (C : Nat → Int) : -(diaN (flM C 4 (3 + 1)).1 4) = 4 * eS C 4 4 := by
  rw [fd4, fp4_00, fp4_11, fp4_22, fp4_33, f4_4_00, f4_4_01, f4_4_02, f4_4_03, f4_4_10, f4_4_11, f4_4_12, f4_4_13, f4_4_20, f4_4_21, f4_4_22, f4_4_23, f4_4_30, f4_4_31, f4_4_32, f4_4_33]
  simp only [eS, adjM, m2, m3, m4]
  grind
theorem e4_4 (C : Nat → Int) : (flM C 4 (3 + 1)).2 = eS C 4 4 := by
  rw [flM_2, d4_4]
  exact Int.mul_tdiv_cancel_left _ (by decide)
end
section
/-! bounds of the coefficients; what a loaded table holds -/
theorem mulB {a b A B : Int} (ha : inB a A) (hb : inB b B) : inB (a * b) (A * B) := by
  obtain ⟨a1, a2⟩ := ha
  obtain ⟨b1, b2⟩ := hb
  have h1 := Int.mul_nonneg (show 0 ≤ A - a by omega) (show 0 ≤ B + b by omega)
  have h2 := Int.mul_nonneg (show 0 ≤ A + a by omega) (show 0 ≤ B - b by omega)
  have h3 := Int.mul_nonneg (show 0 ≤ A - a by omega) (show 0 ≤ B - b by omega)
  have h4 := Int.mul_nonneg (show 0 ≤ A + a by omega) (show 0 ≤ B + b by omega)
  constructor <;> grind
theorem addB {a b A B : Int} (ha : inB a A) (hb : inB b B) : inB (a + b) (A + B) := by
  unfold inB at *; omega
theorem subB {a b A B : Int} (ha : inB a A) (hb : inB b B) : inB (a - b) (A + B) := by
  unfold inB at *; omega
theorem negB {a A : Int} (ha : inB a A) : inB (-a) A := by
  unfold inB at *; omega
theorem leB {a A B : Int} (ha : inB a A) (h : A ≤ B) : inB a B := by
  unfold inB at *; omega
theorem lB_of {a A : Int} (ha : inB a A) (h : A ≤ 9000000000000000000) : lB a := by
  unfold inB at ha; unfold lB; omega
theorem nB_of {a A : Int} (ha : inB a A) (h : A < 1099511627776) : a.natAbs < 2 ^ 40 := by
  unfold inB at ha; omega
def enB (C : Nat → Int) (r : Nat) (B : Int) : Prop := ∀ a b, a < r → b < r → inB (C (4 * a + b)) B
theorem m2_B {C : Nat → Int} {r : Nat} {B : Int} (h : enB C r B) {i j a b : Nat} (hi : i < r) (hj : j < r) (ha : a < r) (hb : b < r) : inB (m2 C i j a b) (B * B + B * B) :=
  subB (mulB (h i a hi ha) (h j b hj hb)) (mulB (h i b hi hb) (h j a hj ha))
theorem m3_B {C : Nat → Int} {r : Nat} {B : Int} (h : enB C r B) {i j k a b c : Nat} (hi : i < r) (hj : j < r) (hk : k < r) (ha : a < r) (hb : b < r) (hc : c < r) : inB (m3 C i j k a b c) (B * (B * B + B * B) + B * (B * B + B * B) + B * (B * B + B * B)) :=
  addB (subB (mulB (h i a hi ha) (m2_B h hj hk hb hc)) (mulB (h i b hi hb) (m2_B h hj hk ha hc))) (mulB (h i c hi hc) (m2_B h hj hk ha hb))
theorem m4_B {C : Nat → Int} {B : Int} (h : enB C 4 B) : inB (m4 C) (B * (B * (B * B + B * B) + B * (B * B + B * B) + B * (B * B + B * B)) + B * (B * (B * B + B * B) + B * (B * B + B * B) + B * (B * B + B * B)) + B * (B * (B * B + B * B) + B * (B * B + B * B) + B * (B * B + B * B)) + B * (B * (B * B + B * B) + B * (B * B + B * B) + B * (B * B + B * B))) :=
  subB (addB (subB (mulB (h 0 0 (by decide) (by decide)) (m3_B h (by decide) (by decide) (by decide) (by decide) (by decide) (by decide))) (mulB (h 0 1 (by decide) (by decide)) (m3_B h (by decide) (by decide) (by decide) (by decide) (by decide) (by decide)))) (mulB (h 0 2 (by decide) (by decide)) (m3_B h (by decide) (by decide) (by decide) (by decide) (by decide) (by decide)))) (mulB (h 0 3 (by decide) (by decide)) (m3_B h (by decide) (by decide) (by decide) (by decide) (by decide) (by decide)))
def tabB (r : Nat) : Int := if r = 4 then 20 else 8000
theorem eS_B {C : Nat → Int} {r : Nat} (h2 : 2 ≤ r) (h4 : r ≤ 4) (h : enB C r (tabB r)) (k : Nat) (hk : k ≤ r) : inB (eS C r k) 10000000000000 := by
  have D : ∀ {n : Nat}, n < 4 → n < 4 := fun h => h
  match r, k, h2, h4, h, hk with
  | 2, 0, _, _, h, _ => show inB 1 _; exact ⟨by decide, by decide⟩
  | 3, 0, _, _, h, _ => show inB 1 _; exact ⟨by decide, by decide⟩
  | 4, 0, _, _, h, _ => show inB 1 _; exact ⟨by decide, by decide⟩
  | 2, 1, _, _, h, _ => exact leB (addB (h 0 0 (by decide) (by decide)) (h 1 1 (by decide) (by decide))) (by decide)
  | 3, 1, _, _, h, _ => exact leB (addB (addB (h 0 0 (by decide) (by decide)) (h 1 1 (by decide) (by decide))) (h 2 2 (by decide) (by decide))) (by decide)
  | 4, 1, _, _, h, _ => exact leB (addB (addB (addB (h 0 0 (by decide) (by decide)) (h 1 1 (by decide) (by decide))) (h 2 2 (by decide) (by decide))) (h 3 3 (by decide) (by decide))) (by decide)
  | 2, 2, _, _, h, _ => exact leB (m2_B h (by decide) (by decide) (by decide) (by decide)) (by decide)
  | 3, 2, _, _, h, _ => exact leB (addB (addB (m2_B h (by decide) (by decide) (by decide) (by decide)) (m2_B h (by decide) (by decide) (by decide) (by decide))) (m2_B h (by decide) (by decide) (by decide) (by decide))) (by decide)
  | 4, 2, _, _, h, _ => exact leB (addB (addB (addB (addB (addB (m2_B h (by decide) (by decide) (by decide) (by decide)) (m2_B h (by decide) (by decide) (by decide) (by decide))) (m2_B h (by decide) (by decide) (by decide) (by decide))) (m2_B h (by decide) (by decide) (by decide) (by decide))) (m2_B h (by decide) (by decide) (by decide) (by decide))) (m2_B h (by decide) (by decide) (by decide) (by decide))) (by decide)
  | 3, 3, _, _, h, _ => exact leB (m3_B h (by decide) (by decide) (by decide) (by decide) (by decide) (by decide)) (by decide)
  | 4, 3, _, _, h, _ => exact leB (addB (addB (addB (m3_B h (by decide) (by decide) (by decide) (by decide) (by decide) (by decide)) (m3_B h (by decide) (by decide) (by decide) (by decide) (by decide) (by decide))) (m3_B h (by decide) (by decide) (by decide) (by decide) (by decide) (by decide))) (m3_B h (by decide) (by decide) (by decide) (by decide) (by decide) (by decide))) (by decide)
  | 4, 4, _, _, h, _ => exact leB (m4_B h) (by decide)
  | 2, n + 3, _, _, h, hk => exact absurd hk (by omega)
  | 3, n + 4, _, _, h, hk => exact absurd hk (by omega)
  | 4, n + 5, _, _, h, hk => exact absurd hk (by omega)
  | 0, _, h2, _, _, _ => exact absurd h2 (by decide)
  | 1, _, h2, _, _, _ => exact absurd h2 (by decide)
  | n + 5, _, _, h4, _, _ => exact absurd h4 (by omega)
/-- the coefficient of the k-th power from the top -/
def eT (C : Nat → Int) (r k : Nat) : Int := if k % 2 = 0 then eS C r k else -(eS C r k)
theorem eT_B {C : Nat → Int} {r : Nat} (h2 : 2 ≤ r) (h4 : r ≤ 4) (h : enB C r (tabB r)) (k : Nat) (hk : k ≤ r) : inB (eT C r k) 10000000000000 := by
  unfold eT
  split
  · exact eS_B h2 h4 h k hk
  · exact negB (eS_B h2 h4 h k hk)
theorem fl_c (C : Nat → Int) {r : Nat} (h2 : 2 ≤ r) (h4 : r ≤ 4) : ∀ k, k ≤ r → (flM C r k).2 = eT C r k := by
  intro k hk
  match r, k, h2, h4, hk with
  | 2, 0, _, _, _ => rfl
  | 3, 0, _, _, _ => rfl
  | 4, 0, _, _, _ => rfl
  | 2, 1, _, _, _ => exact e1_2 C
  | 3, 1, _, _, _ => exact e1_3 C
  | 4, 1, _, _, _ => exact e1_4 C
  | 2, 2, _, _, _ => exact e2_2 C
  | 3, 2, _, _, _ => exact e2_3 C
  | 4, 2, _, _, _ => exact e2_4 C
  | 3, 3, _, _, _ => exact e3_3 C
  | 4, 3, _, _, _ => exact e3_4 C
  | 4, 4, _, _, _ => exact e4_4 C
  | 2, n + 3, _, _, h => exact absurd h (by omega)
  | 3, n + 4, _, _, h => exact absurd h (by omega)
  | 4, n + 5, _, _, h => exact absurd h (by omega)
  | 0, _, h2, _, _ => exact absurd h2 (by decide)
  | 1, _, h2, _, _ => exact absurd h2 (by decide)
  | n + 5, _, _, h4, _ => exact absurd h4 (by omega)
theorem fl_d (C : Nat → Int) {r : Nat} (h2 : 2 ≤ r) (h4 : r ≤ 4) : ∀ k, k < r → -(diaN (flM C r (k + 1)).1 r) = ((k + 1 : Nat) : Int) * eT C r (k + 1) := by
  intro k hk
  match r, k, h2, h4, hk with
  | 2, 0, _, _, _ => exact d1_2 C
  | 3, 0, _, _, _ => exact d1_3 C
  | 4, 0, _, _, _ => exact d1_4 C
  | 2, 1, _, _, _ => exact d2_2 C
  | 3, 1, _, _, _ => exact d2_3 C
  | 4, 1, _, _, _ => exact d2_4 C
  | 3, 2, _, _, _ => exact d3_3 C
  | 4, 2, _, _, _ => exact d3_4 C
  | 4, 3, _, _, _ => exact d4_4 C
  | 2, n + 2, _, _, h => exact absurd h (by omega)
  | 3, n + 3, _, _, h => exact absurd h (by omega)
  | 4, n + 4, _, _, h => exact absurd h (by omega)
  | 0, _, h2, _, _ => exact absurd h2 (by decide)
  | 1, _, h2, _, _ => exact absurd h2 (by decide)
  | n + 5, _, _, h4, _ => exact absurd h4 (by omega)
theorem fl_q {C : Nat → Int} {r : Nat} (h2 : 2 ≤ r) (h4 : r ≤ 4) (h : enB C r (tabB r)) : ∀ k, k < r → lB (-(diaN (flM C r (k + 1)).1 r)) := by
  intro k hk
  rw [fl_d C h2 h4 k hk]
  refine lB_of (mulB (A := 4) (B := 10000000000000) ⟨by omega, by omega⟩ (eT_B h2 h4 h (k + 1) hk)) (by decide)
theorem fl_f (C : Nat → Int) {r : Nat} (h2 : 2 ≤ r) (h4 : r ≤ 4) : ∀ a b, a < r → b < r → flF C r (r - 1) (4 * a + b) = if r % 2 = 0 then -(adjM C r a b) else adjM C r a b := by
  intro a b ha hb
  match r, h2, h4, ha, hb with
  | 2, _, _, ha, hb =>
    have hA : a = 0 ∨ a = 1 := by omega
    have hB : b = 0 ∨ b = 1 := by omega
    rcases hA with rfl | rfl <;> rcases hB with rfl | rfl
    · show _ = -(C 5); rw [show flF C 2 (2 - 1) (4 * 0 + 0) = _ from f2_2_00 C]; simp only [eS]; omega
    · show _ = -(-(C 1)); rw [show flF C 2 (2 - 1) (4 * 0 + 1) = _ from f2_2_01 C]; omega
    · show _ = -(-(C 4)); rw [show flF C 2 (2 - 1) (4 * 1 + 0) = _ from f2_2_10 C]; omega
    · show _ = -(C 0); rw [show flF C 2 (2 - 1) (4 * 1 + 1) = _ from f2_2_11 C]; simp only [eS]; omega
  | 3, _, _, ha, hb =>
    have hA : a = 0 ∨ a = 1 ∨ a = 2 := by omega
    have hB : b = 0 ∨ b = 1 ∨ b = 2 := by omega
    rcases hA with rfl | rfl | rfl <;> rcases hB with rfl | rfl | rfl
    · exact f3_3_00 C
    · exact f3_3_01 C
    · exact f3_3_02 C
    · exact f3_3_10 C
    · exact f3_3_11 C
    · exact f3_3_12 C
    · exact f3_3_20 C
    · exact f3_3_21 C
    · exact f3_3_22 C
  | 4, _, _, ha, hb =>
    have hA : a = 0 ∨ a = 1 ∨ a = 2 ∨ a = 3 := by omega
    have hB : b = 0 ∨ b = 1 ∨ b = 2 ∨ b = 3 := by omega
    rcases hA with rfl | rfl | rfl | rfl <;> rcases hB with rfl | rfl | rfl | rfl
    · exact f4_4_00 C
    · exact f4_4_01 C
    · exact f4_4_02 C
    · exact f4_4_03 C
    · exact f4_4_10 C
    · exact f4_4_11 C
    · exact f4_4_12 C
    · exact f4_4_13 C
    · exact f4_4_20 C
    · exact f4_4_21 C
    · exact f4_4_22 C
    · exact f4_4_23 C
    · exact f4_4_30 C
    · exact f4_4_31 C
    · exact f4_4_32 C
    · exact f4_4_33 C
  | 0, h2, _, _, _ => exact absurd h2 (by decide)
  | 1, h2, _, _, _ => exact absurd h2 (by decide)
  | n + 5, _, h4, _, _ => exact absurd h4 (by omega)
end
section
/-! pure words for the class's answers -/
/-- the part of a table from f on -/
def prt (S : Nat → Int) (f : Nat) : Nat → Int := fun q => S (4 * (f + q / 4) + (f + q % 4))
/-- coefficients, lowest power first -/
def cO (U : Nat → Int) (r : Nat) : Nat → Int := fun k => eT U r (r - k)
def upN (U : Nat → Int) (r : Nat) : Nat := chgA (cO U r) r 1
def rkN (U : Nat → Int) (r : Nat) : Nat := r - zerN (cO U r) r r
def dwN (U : Nat → Int) (r : Nat) : Nat := rkN U r - upN U r
theorem upN_le (U : Nat → Int) (r : Nat) : upN U r ≤ rkN U r := chg_le _ _ _
theorem rkN_le (U : Nat → Int) (r : Nat) : rkN U r ≤ r := Nat.sub_le _ _
theorem chgA_congr {O G : Nat → Int} : ∀ (n : Nat) (x : Int), (∀ k, k < n → O k = G k) → chgA O n x = chgA G n x
  | 0, _, _ => rfl
  | n + 1, x, h => by
    have e := h n (by omega)
    have i := fun y => chgA_congr (O := O) (G := G) n y (fun k hk => h k (by omega))
    unfold chgA
    rw [e, i x, i (G n)]
theorem zerN_congr {O G : Nat → Int} {r : Nat} (h : ∀ k, k < r → O k = G k) : ∀ n, n ≤ r → zerN O r n = zerN G r n
  | 0, _ => rfl
  | n + 1, hn => by
    unfold zerN
    rw [h (r - (n + 1)) (by omega), zerN_congr h n (by omega)]
theorem enB_prt {S : Nat → Int} {f r : Nat} {B : Int} (h4 : r ≤ 4) (h : ∀ a b, a < r → b < r → inB (S (4 * (f + a) + (f + b))) B) : enB (prt S f) r B := by
  intro a b ha hb
  unfold prt
  rw [q4d a (show b < 4 by omega), q4m a (show b < 4 by omega)]
  exact h a b ha hb
theorem eS_congr {C G : Nat → Int} {r : Nat} (h2 : 2 ≤ r) (h4 : r ≤ 4) (h : ∀ a b, a < r → b < r → C (4 * a + b) = G (4 * a + b)) (k : Nat) (hk : k ≤ r) : eS C r k = eS G r k := by
  match r, k, h2, h4, hk, h with
  | 2, 0, _, _, _, h => rfl
  | 3, 0, _, _, _, h => rfl
  | 4, 0, _, _, _, h => rfl
  | 2, 1, _, _, _, h =>
    have h00 := h 0 0 (by decide) (by decide); have h11 := h 1 1 (by decide) (by decide)
    simp only [eS]; simp only [Nat.reduceMul, Nat.reduceAdd] at h00 h11; rw [h00, h11]
  | 2, 2, _, _, _, h =>
    have h00 := h 0 0 (by decide) (by decide); have h11 := h 1 1 (by decide) (by decide); have h01 := h 0 1 (by decide) (by decide); have h10 := h 1 0 (by decide) (by decide)
    simp only [eS, m2]; rw [h00, h11, h01, h10]
  | 3, 1, _, _, _, h =>
    have h00 := h 0 0 (by decide) (by decide); have h11 := h 1 1 (by decide) (by decide); have h22 := h 2 2 (by decide) (by decide)
    simp only [eS]; simp only [Nat.reduceMul, Nat.reduceAdd] at h00 h11 h22; rw [h00, h11, h22]
  | 3, 2, _, _, _, h =>
    have h00 := h 0 0 (by decide) (by decide); have h01 := h 0 1 (by decide) (by decide); have h02 := h 0 2 (by decide) (by decide)
    have h10 := h 1 0 (by decide) (by decide); have h11 := h 1 1 (by decide) (by decide); have h12 := h 1 2 (by decide) (by decide)
    have h20 := h 2 0 (by decide) (by decide); have h21 := h 2 1 (by decide) (by decide); have h22 := h 2 2 (by decide) (by decide)
    simp only [eS, m2]; rw [h00, h01, h02, h10, h11, h12, h20, h21, h22]
  | 3, 3, _, _, _, h =>
    have h00 := h 0 0 (by decide) (by decide); have h01 := h 0 1 (by decide) (by decide); have h02 := h 0 2 (by decide) (by decide)
    have h10 := h 1 0 (by decide) (by decide); have h11 := h 1 1 (by decide) (by decide); have h12 := h 1 2 (by decide) (by decide)
    have h20 := h 2 0 (by decide) (by decide); have h21 := h 2 1 (by decide) (by decide); have h22 := h 2 2 (by decide) (by decide)
    simp only [eS, m2, m3]; rw [h00, h01, h02, h10, h11, h12, h20, h21, h22]
  | 4, 1, _, _, _, h =>
    have h00 := h 0 0 (by decide) (by decide); have h11 := h 1 1 (by decide) (by decide); have h22 := h 2 2 (by decide) (by decide); have h33 := h 3 3 (by decide) (by decide)
    simp only [eS]; simp only [Nat.reduceMul, Nat.reduceAdd] at h00 h11 h22 h33; rw [h00, h11, h22, h33]
  | 4, 2, _, _, _, h =>
    have h00 := h 0 0 (by decide) (by decide); have h01 := h 0 1 (by decide) (by decide); have h02 := h 0 2 (by decide) (by decide); have h03 := h 0 3 (by decide) (by decide)
    have h10 := h 1 0 (by decide) (by decide); have h11 := h 1 1 (by decide) (by decide); have h12 := h 1 2 (by decide) (by decide); have h13 := h 1 3 (by decide) (by decide)
    have h20 := h 2 0 (by decide) (by decide); have h21 := h 2 1 (by decide) (by decide); have h22 := h 2 2 (by decide) (by decide); have h23 := h 2 3 (by decide) (by decide)
    have h30 := h 3 0 (by decide) (by decide); have h31 := h 3 1 (by decide) (by decide); have h32 := h 3 2 (by decide) (by decide); have h33 := h 3 3 (by decide) (by decide)
    simp only [eS, m2]; rw [h00, h01, h02, h03, h10, h11, h12, h13, h20, h21, h22, h23, h30, h31, h32, h33]
  | 4, 3, _, _, _, h =>
    have h00 := h 0 0 (by decide) (by decide); have h01 := h 0 1 (by decide) (by decide); have h02 := h 0 2 (by decide) (by decide); have h03 := h 0 3 (by decide) (by decide)
    have h10 := h 1 0 (by decide) (by decide); have h11 := h 1 1 (by decide) (by decide); have h12 := h 1 2 (by decide) (by decide); have h13 := h 1 3 (by decide) (by decide)
    have h20 := h 2 0 (by decide) (by decide); have h21 := h 2 1 (by decide) (by decide); have h22 := h 2 2 (by decide) (by decide); have h23 := h 2 3 (by decide) (by decide)
    have h30 := h 3 0 (by decide) (by decide); have h31 := h 3 1 (by decide) (by decide); have h32 := h 3 2 (by decide) (by decide); have h33 := h 3 3 (by decide) (by decide)
    simp only [eS, m2, m3]; rw [h00, h01, h02, h03, h10, h11, h12, h13, h20, h21, h22, h23, h30, h31, h32, h33]
  | 4, 4, _, _, _, h =>
    have h00 := h 0 0 (by decide) (by decide); have h01 := h 0 1 (by decide) (by decide); have h02 := h 0 2 (by decide) (by decide); have h03 := h 0 3 (by decide) (by decide)
    have h10 := h 1 0 (by decide) (by decide); have h11 := h 1 1 (by decide) (by decide); have h12 := h 1 2 (by decide) (by decide); have h13 := h 1 3 (by decide) (by decide)
    have h20 := h 2 0 (by decide) (by decide); have h21 := h 2 1 (by decide) (by decide); have h22 := h 2 2 (by decide) (by decide); have h23 := h 2 3 (by decide) (by decide)
    have h30 := h 3 0 (by decide) (by decide); have h31 := h 3 1 (by decide) (by decide); have h32 := h 3 2 (by decide) (by decide); have h33 := h 3 3 (by decide) (by decide)
    simp only [Nat.reduceMul, Nat.reduceAdd] at h00 h01 h02 h03 h10 h11 h12 h13 h20 h21 h22 h23 h30 h31 h32 h33
    simp only [eS, m2, m3, m4, Nat.reduceMul, Nat.reduceAdd]; rw [h00, h01, h02, h03, h10, h11, h12, h13, h20, h21, h22, h23, h30, h31, h32, h33]
  | 2, n + 3, _, _, hk, _ => exact absurd hk (by omega)
  | 3, n + 4, _, _, hk, _ => exact absurd hk (by omega)
  | 4, n + 5, _, _, hk, _ => exact absurd hk (by omega)
  | 0, _, h2, _, _, _ => exact absurd h2 (by decide)
  | 1, _, h2, _, _, _ => exact absurd h2 (by decide)
  | n + 5, _, _, h4, _, _ => exact absurd h4 (by omega)
def rst (r : Nat) (C : Nat → Int) : Nat → Int := fun q => if q / 4 < r ∧ q % 4 < r then C q else 0
theorem rst_congr {C G : Nat → Int} {r : Nat} (h : ∀ a b, a < r → b < r → C (4 * a + b) = G (4 * a + b)) : rst r C = rst r G := by
  funext q
  unfold rst
  split
  · rename_i hq
    have e := h (q / 4) (q % 4) hq.1 hq.2
    rwa [show 4 * (q / 4) + q % 4 = q from by omega] at e
  · rfl
theorem adjM_rst (C : Nat → Int) {r i j : Nat} (h2 : 2 ≤ r) (h4 : r ≤ 4) (hi : i < r) (hj : j < r) : adjM C r i j = adjM (rst r C) r i j := by
  match r, i, j, h2, h4, hi, hj with
  | 2, 0, 0, _, _, _, _ => rfl
  | 2, 0, 1, _, _, _, _ => rfl
  | 2, 1, 0, _, _, _, _ => rfl
  | 2, 1, 1, _, _, _, _ => rfl
  | 3, 0, 0, _, _, _, _ => rfl
  | 3, 0, 1, _, _, _, _ => rfl
  | 3, 0, 2, _, _, _, _ => rfl
  | 3, 1, 0, _, _, _, _ => rfl
  | 3, 1, 1, _, _, _, _ => rfl
  | 3, 1, 2, _, _, _, _ => rfl
  | 3, 2, 0, _, _, _, _ => rfl
  | 3, 2, 1, _, _, _, _ => rfl
  | 3, 2, 2, _, _, _, _ => rfl
  | 4, 0, 0, _, _, _, _ => rfl
  | 4, 0, 1, _, _, _, _ => rfl
  | 4, 0, 2, _, _, _, _ => rfl
  | 4, 0, 3, _, _, _, _ => rfl
  | 4, 1, 0, _, _, _, _ => rfl
  | 4, 1, 1, _, _, _, _ => rfl
  | 4, 1, 2, _, _, _, _ => rfl
  | 4, 1, 3, _, _, _, _ => rfl
  | 4, 2, 0, _, _, _, _ => rfl
  | 4, 2, 1, _, _, _, _ => rfl
  | 4, 2, 2, _, _, _, _ => rfl
  | 4, 2, 3, _, _, _, _ => rfl
  | 4, 3, 0, _, _, _, _ => rfl
  | 4, 3, 1, _, _, _, _ => rfl
  | 4, 3, 2, _, _, _, _ => rfl
  | 4, 3, 3, _, _, _, _ => rfl
  | 2, n + 2, _, _, _, h, _ => exact absurd h (by omega)
  | 2, 0, n + 2, _, _, _, h => exact absurd h (by omega)
  | 2, 1, n + 2, _, _, _, h => exact absurd h (by omega)
  | 3, n + 3, _, _, _, h, _ => exact absurd h (by omega)
  | 3, 0, n + 3, _, _, _, h => exact absurd h (by omega)
  | 3, 1, n + 3, _, _, _, h => exact absurd h (by omega)
  | 3, 2, n + 3, _, _, _, h => exact absurd h (by omega)
  | 4, n + 4, _, _, _, h, _ => exact absurd h (by omega)
  | 4, 0, n + 4, _, _, _, h => exact absurd h (by omega)
  | 4, 1, n + 4, _, _, _, h => exact absurd h (by omega)
  | 4, 2, n + 4, _, _, _, h => exact absurd h (by omega)
  | 4, 3, n + 4, _, _, _, h => exact absurd h (by omega)
  | 0, _, _, h2, _, _, _ => exact absurd h2 (by decide)
  | 1, _, _, h2, _, _, _ => exact absurd h2 (by decide)
  | n + 5, _, _, _, h4, _, _ => exact absurd h4 (by omega)
theorem adjM_congr {C G : Nat → Int} {r : Nat} (h2 : 2 ≤ r) (h4 : r ≤ 4) (h : ∀ a b, a < r → b < r → C (4 * a + b) = G (4 * a + b)) {i j : Nat} (hi : i < r) (hj : j < r) : adjM C r i j = adjM G r i j := by
  rw [adjM_rst C h2 h4 hi hj, adjM_rst G h2 h4 hi hj, rst_congr h]
/-- what a loaded table holds of U -/
def tabOK (U : Nat → Int) (r : Nat) (F O : Nat → Int) : Prop := (∀ k, k ≤ r → O k = cO U r k) ∧ ∀ a b, a < r → b < r → F (4 * a + b) = if r % 2 = 0 then -(adjM U r a b) else adjM U r a b
theorem prt_eq {C2 S : Nat → Int} {f r : Nat} (h4 : r ≤ 4) (h : ∀ a b, a < r → b < r → C2 (4 * a + b) = S (4 * (f + a) + (f + b))) : ∀ a b, a < r → b < r → C2 (4 * a + b) = prt S f (4 * a + b) := by
  intro a b ha hb
  unfold prt
  rw [q4d a (show b < 4 by omega), q4m a (show b < 4 by omega)]
  exact h a b ha hb
theorem ld_ok {S C2 F2 O2 : Nat → Int} {f r : Nat} (h2 : 2 ≤ r) (h4 : r ≤ 4) (hw : (∀ a b, a < r → b < r → C2 (4 * a + b) = S (4 * (f + a) + (f + b))) ∧ flOK C2 r F2 O2) : tabOK (prt S f) r F2 O2 := by
  obtain ⟨hC, hO, hF⟩ := hw
  have hP := prt_eq h4 hC
  refine ⟨fun k hk => ?_, fun a b ha hb => ?_⟩
  · have e := hO (r - k) (by omega)
    rw [show r - (r - k) = k from by omega, fl_c C2 h2 h4 (r - k) (by omega)] at e
    rw [e]
    unfold cO eT
    rw [eS_congr h2 h4 hP (r - k) (by omega)]
  · rw [hF a b ha hb, fl_f C2 h2 h4 a b ha hb, adjM_congr h2 h4 hP ha hb]
theorem enB_congr {C G : Nat → Int} {r : Nat} {B : Int} (h : ∀ a b, a < r → b < r → C (4 * a + b) = G (4 * a + b)) (hb : enB G r B) : enB C r B := fun a b ha hb2 => by rw [h a b ha hb2]; exact hb a b ha hb2
theorem ld_q {S : Nat → Int} {f r : Nat} (h2 : 2 ≤ r) (h4 : r ≤ 4) (hb : enB (prt S f) r (tabB r)) : ∀ C2 : Nat → Int, (∀ a b, a < r → b < r → C2 (4 * a + b) = S (4 * (f + a) + (f + b))) → ∀ k, k < r → lB (-(diaN (flM C2 r (k + 1)).1 r)) :=
  fun _ h => fl_q h2 h4 (enB_congr (prt_eq h4 h) hb)
theorem ld_O {U F O : Nat → Int} {r : Nat} (h2 : 2 ≤ r) (h4 : r ≤ 4) (hb : enB U r (tabB r)) (hT : tabOK U r F O) : ∀ k, k ≤ r → inB (O k) 10000000000000 := fun k hk => by
  rw [hT.1 k hk]; exact eT_B h2 h4 hb (r - k) (Nat.sub_le _ _)
theorem ld_lB {U F O : Nat → Int} {r : Nat} (h2 : 2 ≤ r) (h4 : r ≤ 4) (hb : enB U r (tabB r)) (hT : tabOK U r F O) : ∀ k, k < r → lB (O k) := fun k hk => lB_of (ld_O h2 h4 hb hT k (by omega)) (by decide)
theorem ld_up {U F O : Nat → Int} {r : Nat} (hT : tabOK U r F O) : chgA O r 1 = upN U r := chgA_congr r 1 (fun k hk => hT.1 k (by omega))
theorem ld_rk {U F O : Nat → Int} {r : Nat} (hT : tabOK U r F O) : r - zerN O r r = rkN U r := by
  unfold rkN; rw [zerN_congr (fun k hk => hT.1 k (by omega)) r (Nat.le_refl _)]
theorem ld_dw {U F O : Nat → Int} {r : Nat} (hT : tabOK U r F O) : r - zerN O r r - chgA O r 1 = dwN U r := by
  rw [ld_rk hT, ld_up hT]; rfl
theorem cO_0 (U : Nat → Int) (r : Nat) : cO U r 0 = eT U r r := rfl
def det (U : Nat → Int) (r : Nat) : Int := eS U r r
theorem ld_det {U F O : Nat → Int} {r : Nat} (hT : tabOK U r F O) : (if r % 2 = 0 then O 0 else -(O 0)) = det U r := by
  rw [hT.1 0 (Nat.zero_le _), cO_0]
  unfold eT det
  split
  · rfl
  · exact Int.neg_neg _
theorem ld_tr {U F O : Nat → Int} {r : Nat} (h : 1 ≤ r) (hT : tabOK U r F O) : -(O (r - 1)) = eS U r 1 := by
  rw [hT.1 (r - 1) (by omega)]
  show -(eT U r (r - (r - 1))) = _
  rw [show r - (r - 1) = 1 from by omega]
  show -(-(eS U r 1)) = _
  exact Int.neg_neg _
theorem ld_pa {U F O : Nat → Int} {r : Nat} (h : 2 ≤ r) (hT : tabOK U r F O) : O (r - 2) = eS U r 2 := by
  rw [hT.1 (r - 2) (by omega)]
  show eT U r (r - (r - 2)) = _
  rw [show r - (r - 2) = 2 from by omega]
  rfl
theorem ld_adj {U F O : Nat → Int} {r i j : Nat} (hT : tabOK U r F O) (hi : i < r) (hj : j < r) : (if r % 2 = 0 then -(F (4 * i + j)) else F (4 * i + j)) = adjM U r i j := by
  rw [hT.2 i j hi hj]
  split
  · exact Int.neg_neg _
  · rfl
def keyN (a0 a1 b0 b1 : Nat) : Nat := if a0 < a1 ∨ (a1 = a0 ∧ b0 < b1) then 1000 * a1 + 100 * a0 + 10 * b1 + b0 else 1000 * a0 + 100 * a1 + 10 * b0 + b1
def kiP (k : Nat) : Nat := if k = 10 then 0 else if k = 11 then 7 else if k = 1010 then 9 else if k = 1011 then 6 else if k = 1020 then 0 else if k = 1021 then 4 else if k = 1111 then 5 else if k = 1121 then 3 else if k = 2020 then 1 else if k = 2021 then 2 else if k = 2030 then 0 else 8
def kiS (k : Nat) : Nat := if k = 10 then 10 else if k = 11 then 24 else if k = 1010 then 25 else if k = 1011 then 23 else if k = 1020 then 10 else if k = 1021 then 20 else if k = 1111 then 22 else if k = 1121 then 19 else if k = 1122 then 16 else if k = 2020 then 21 else if k = 2021 then 18 else if k = 2030 then 10 else if k = 2031 then 15 else if k = 2121 then 17 else if k = 2122 then 13 else if k = 2131 then 14 else if k = 3030 then 11 else if k = 3031 then 12 else if k = 3040 then 10 else 26
/-- the kind of the table S with d + 1 rows -/
def kindN (S : Nat → Int) (d : Nat) : Nat := if d = 2 then kiP (keyN (upN (prt S 1) d) (dwN (prt S 1) d) (upN (prt S 0) (d + 1)) (dwN (prt S 0) (d + 1))) else kiS (keyN (upN (prt S 1) d) (dwN (prt S 1) d) (upN (prt S 0) (d + 1)) (dwN (prt S 0) (d + 1)))
def cutZ (Fm G : Nat → Int) (i j pv : Nat) : Int := G pv * G pv * Fm (4 * i + j) - G pv * G i * Fm (4 * pv + j) - G pv * G j * Fm (4 * i + pv) + G i * G j * Fm (4 * pv + pv)
def skp (a pv : Nat) : Nat := if a < pv then a else a + 1
end
