/-! names of the claim (printed by wip/gen_names.py): classes, fields, methods, the tables' words by their places -/
/-- a long by its whole number -/
def lI (x : Int) : Int64 := Int64.ofInt x
def R_K : String := "ConicKinds"
def R_T : String := "ConicKinds$Table"
def R_M : String := "ConicKindsModel"
def R_L : String := "ConicKindsLaw"
def R_A : String := "java/util/Arrays"
def F_T : u_T := fun k => match k with
  | 0 => ("ConicKinds$Table", "rows", "I", false)
  | 1 => ("ConicKinds$Table", "cells", "[J", true)
  | 2 => ("ConicKinds$Table", "factor", "[J", true)
  | 3 => ("ConicKinds$Table", "product", "[J", true)
  | _ => ("ConicKinds$Table", "coefficients", "[J", true)
def ft_T : Nat → FieldType := fun k => match k with
  | 0 => .int
  | 1 => .array .long
  | 2 => .array .long
  | 3 => .array .long
  | _ => .array .long
theorem n_T : ∀ a, a < 5 → ∀ b, b < 5 → a ≠ b → (F_T a).2.1 ≠ (F_T b).2.1 := by decide +kernel
theorem ft_T_ok : ∀ k, k < 5 → parseFieldDescriptor (F_T k).2.2.1 = some (ft_T k) := by decide +kernel
def F_K : u_T := fun k => match k with
  | 0 => ("ConicKinds", "size", "I", false)
  | 1 => ("ConicKinds", "hasKept", "Z", false)
  | 2 => ("ConicKinds", "form", "[J", true)
  | 3 => ("ConicKinds", "kept", "[J", true)
  | 4 => ("ConicKinds", "table", "LConicKinds$Table;", true)
  | 5 => ("ConicKinds", "work", "[J", true)
  | 6 => ("ConicKinds", "first", "[J", true)
  | _ => ("ConicKinds", "second", "[J", true)
def ft_K : Nat → FieldType := fun k => match k with
  | 0 => .int
  | 1 => .boolean
  | 2 => .array .long
  | 3 => .array .long
  | 4 => .object "ConicKinds$Table"
  | 5 => .array .long
  | 6 => .array .long
  | _ => .array .long
theorem n_K : ∀ a, a < 8 → ∀ b, b < 8 → a ≠ b → (F_K a).2.1 ≠ (F_K b).2.1 := by decide +kernel
theorem ft_K_ok : ∀ k, k < 8 → parseFieldDescriptor (F_K k).2.2.1 = some (ft_K k) := by decide +kernel
def F_M : u_T := fun k => match k with
  | 0 => ("ConicKindsModel", "code", "I", false)
  | 1 => ("ConicKindsModel", "d", "I", false)
  | 2 => ("ConicKindsModel", "m", "[I", true)
  | 3 => ("ConicKindsModel", "isKept", "Z", false)
  | 4 => ("ConicKindsModel", "keptForm", "[I", true)
  | 5 => ("ConicKindsModel", "table", "[J", true)
  | 6 => ("ConicKindsModel", "rows", "I", false)
  | 7 => ("ConicKindsModel", "work", "[J", true)
  | 8 => ("ConicKindsModel", "above", "I", false)
  | 9 => ("ConicKindsModel", "beneath", "I", false)
  | 10 => ("ConicKindsModel", "planes", "[I", true)
  | 11 => ("ConicKindsModel", "spaces", "[I", true)
  | 12 => ("ConicKindsModel", "a0", "I", false)
  | 13 => ("ConicKindsModel", "a1", "I", false)
  | 14 => ("ConicKindsModel", "b0", "I", false)
  | 15 => ("ConicKindsModel", "b1", "I", false)
  | 16 => ("ConicKindsModel", "point", "[J", true)
  | 17 => ("ConicKindsModel", "told", "[J", true)
  | 18 => ("ConicKindsModel", "base", "[J", true)
  | 19 => ("ConicKindsModel", "lines", "[J", true)
  | _ => ("ConicKindsModel", "lineMany", "I", false)
def ft_M : Nat → FieldType := fun k => match k with
  | 0 => .int
  | 1 => .int
  | 2 => .array .int
  | 3 => .boolean
  | 4 => .array .int
  | 5 => .array .long
  | 6 => .int
  | 7 => .array .long
  | 8 => .int
  | 9 => .int
  | 10 => .array .int
  | 11 => .array .int
  | 12 => .int
  | 13 => .int
  | 14 => .int
  | 15 => .int
  | 16 => .array .long
  | 17 => .array .long
  | 18 => .array .long
  | 19 => .array .long
  | _ => .int
theorem n_M : ∀ a, a < 21 → ∀ b, b < 21 → a ≠ b → (F_M a).2.1 ≠ (F_M b).2.1 := by decide +kernel
theorem ft_M_ok : ∀ k, k < 21 → parseFieldDescriptor (F_M k).2.2.1 = some (ft_M k) := by decide +kernel
abbrev vwC : List vw_C := [(R_T, F_T, 5), (R_K, F_K, 8), (R_M, F_M, 21)]
abbrev b_K_init : ByteArray := prog_1_method_1_code
def y_K_init : MethodName := ⟨"ConicKinds", "<init>", "()V"⟩
abbrev b_T_init : ByteArray := prog_2_method_1_code
def y_T_init : MethodName := ⟨"ConicKinds$Table", "<init>", "()V"⟩
abbrev b_K_dimension : ByteArray := prog_1_method_2_code
def y_K_dimension : MethodName := ⟨"ConicKinds", "dimension", "(I)I"⟩
abbrev b_A_fill : ByteArray := prog_12_method_101_code
def y_A_fill : MethodName := ⟨"java/util/Arrays", "fill", "([JJ)V"⟩
abbrev b_K_put : ByteArray := prog_1_method_3_code
def y_K_put : MethodName := ⟨"ConicKinds", "put", "(III)J"⟩
abbrev b_K_isNoPlace : ByteArray := prog_1_method_21_code
def y_K_isNoPlace : MethodName := ⟨"ConicKinds", "isNoPlace", "(I)Z"⟩
abbrev b_K_isBeyond : ByteArray := prog_1_method_23_code
def y_K_isBeyond : MethodName := ⟨"ConicKinds", "isBeyond", "(JI)Z"⟩
abbrev b_K_place : ByteArray := prog_1_method_20_code
def y_K_place : MethodName := ⟨"ConicKinds", "place", "(II)I"⟩
abbrev b_K_kind : ByteArray := prog_1_method_4_code
def y_K_kind : MethodName := ⟨"ConicKinds", "kind", "()I"⟩
abbrev b_K_kindOf : ByteArray := prog_1_method_34_code
def y_K_kindOf : MethodName := ⟨"ConicKinds", "kindOf", "([JI)I"⟩
abbrev b_T_load : ByteArray := prog_2_method_2_code
def y_T_load : MethodName := ⟨"ConicKinds$Table", "load", "([JII)V"⟩
abbrev b_T_expand : ByteArray := prog_2_method_3_code
def y_T_expand : MethodName := ⟨"ConicKinds$Table", "expand", "()V"⟩
abbrev b_T_multiply : ByteArray := prog_2_method_4_code
def y_T_multiply : MethodName := ⟨"ConicKinds$Table", "multiply", "()V"⟩
abbrev b_T_diagonal : ByteArray := prog_2_method_5_code
def y_T_diagonal : MethodName := ⟨"ConicKinds$Table", "diagonal", "()J"⟩
abbrev b_T_countAbove : ByteArray := prog_2_method_11_code
def y_T_countAbove : MethodName := ⟨"ConicKinds$Table", "countAbove", "()I"⟩
abbrev b_T_countBelow : ByteArray := prog_2_method_12_code
def y_T_countBelow : MethodName := ⟨"ConicKinds$Table", "countBelow", "()I"⟩
abbrev b_T_rank : ByteArray := prog_2_method_10_code
def y_T_rank : MethodName := ⟨"ConicKinds$Table", "rank", "()I"⟩
abbrev b_K_codeOf : ByteArray := prog_1_method_35_code
def y_K_codeOf : MethodName := ⟨"ConicKinds", "codeOf", "(IIII)I"⟩
abbrev b_K_kindInPlane : ByteArray := prog_1_method_36_code
def y_K_kindInPlane : MethodName := ⟨"ConicKinds", "kindInPlane", "(I)I"⟩
abbrev b_K_kindInSpace : ByteArray := prog_1_method_37_code
def y_K_kindInSpace : MethodName := ⟨"ConicKinds", "kindInSpace", "(I)I"⟩
abbrev b_K_signs : ByteArray := prog_1_method_5_code
def y_K_signs : MethodName := ⟨"ConicKinds", "signs", "(I)I"⟩
abbrev b_K_determinant : ByteArray := prog_1_method_6_code
def y_K_determinant : MethodName := ⟨"ConicKinds", "determinant", "(I)J"⟩
abbrev b_T_sumOfValues : ByteArray := prog_2_method_8_code
def y_T_sumOfValues : MethodName := ⟨"ConicKinds$Table", "sumOfValues", "()J"⟩
abbrev b_T_sumOfPairs : ByteArray := prog_2_method_9_code
def y_T_sumOfPairs : MethodName := ⟨"ConicKinds$Table", "sumOfPairs", "()J"⟩
abbrev b_T_productOfValues : ByteArray := prog_2_method_7_code
def y_T_productOfValues : MethodName := ⟨"ConicKinds$Table", "productOfValues", "()J"⟩
abbrev b_K_middles : ByteArray := prog_1_method_7_code
def y_K_middles : MethodName := ⟨"ConicKinds", "middles", "()I"⟩
abbrev b_K_middle : ByteArray := prog_1_method_8_code
def y_K_middle : MethodName := ⟨"ConicKinds", "middle", "(II)J"⟩
abbrev b_K_isNoPart : ByteArray := prog_1_method_22_code
def y_K_isNoPart : MethodName := ⟨"ConicKinds", "isNoPart", "(I)Z"⟩
abbrev b_T_adjugate : ByteArray := prog_2_method_6_code
def y_T_adjugate : MethodName := ⟨"ConicKinds$Table", "adjugate", "(II)J"⟩
abbrev b_K_partOfFraction : ByteArray := prog_1_method_32_code
def y_K_partOfFraction : MethodName := ⟨"ConicKinds", "partOfFraction", "(JJI)J"⟩
abbrev b_K_greatestDivisor : ByteArray := prog_1_method_31_code
def y_K_greatestDivisor : MethodName := ⟨"ConicKinds", "greatestDivisor", "(JJ)J"⟩
abbrev b_K_below : ByteArray := prog_1_method_10_code
def y_K_below : MethodName := ⟨"ConicKinds", "below", "(II)I"⟩
abbrev b_K_unlike : ByteArray := prog_1_method_11_code
def y_K_unlike : MethodName := ⟨"ConicKinds", "unlike", "()I"⟩
abbrev b_T_countUnlike : ByteArray := prog_2_method_13_code
def y_T_countUnlike : MethodName := ⟨"ConicKinds$Table", "countUnlike", "()I"⟩
abbrev b_T_discriminant : ByteArray := prog_2_method_14_code
def y_T_discriminant : MethodName := ⟨"ConicKinds$Table", "discriminant", "(JJJ)J"⟩
abbrev b_K_at : ByteArray := prog_1_method_12_code
def y_K_at : MethodName := ⟨"ConicKinds", "at", "(IIII)I"⟩
abbrev b_K_takePoint : ByteArray := prog_1_method_28_code
def y_K_takePoint : MethodName := ⟨"ConicKinds", "takePoint", "(IIII)Z"⟩
abbrev b_K_setRow : ByteArray := prog_1_method_25_code
def y_K_setRow : MethodName := ⟨"ConicKinds", "setRow", "([JJJJJ)V"⟩
abbrev b_K_isRowBeyond : ByteArray := prog_1_method_26_code
def y_K_isRowBeyond : MethodName := ⟨"ConicKinds", "isRowBeyond", "([JI)Z"⟩
abbrev b_K_formOf : ByteArray := prog_1_method_30_code
def y_K_formOf : MethodName := ⟨"ConicKinds", "formOf", "([J[J)J"⟩
abbrev b_K_rowTimes : ByteArray := prog_1_method_29_code
def y_K_rowTimes : MethodName := ⟨"ConicKinds", "rowTimes", "(I[J)J"⟩
abbrev b_K_signCode : ByteArray := prog_1_method_24_code
def y_K_signCode : MethodName := ⟨"ConicKinds", "signCode", "(J)I"⟩
abbrev b_K_polar : ByteArray := prog_1_method_13_code
def y_K_polar : MethodName := ⟨"ConicKinds", "polar", "(IIIII)J"⟩
abbrev b_K_clearDivisor : ByteArray := prog_1_method_33_code
def y_K_clearDivisor : MethodName := ⟨"ConicKinds", "clearDivisor", "([JI)Z"⟩
abbrev b_K_touches : ByteArray := prog_1_method_14_code
def y_K_touches : MethodName := ⟨"ConicKinds", "touches", "(IIII)I"⟩
abbrev b_K_isAllZero : ByteArray := prog_1_method_27_code
def y_K_isAllZero : MethodName := ⟨"ConicKinds", "isAllZero", "([JII)Z"⟩
abbrev b_K_section : ByteArray := prog_1_method_15_code
def y_K_section : MethodName := ⟨"ConicKinds", "section", "(IIII)I"⟩
abbrev b_K_cutInto : ByteArray := prog_1_method_38_code
def y_K_cutInto : MethodName := ⟨"ConicKinds", "cutInto", "([JI)V"⟩
abbrev b_K_cutCell : ByteArray := prog_1_method_39_code
def y_K_cutCell : MethodName := ⟨"ConicKinds", "cutCell", "(III)J"⟩
abbrev b_K_meets : ByteArray := prog_1_method_16_code
def y_K_meets : MethodName := ⟨"ConicKinds", "meets", "(IIIIII)I"⟩
abbrev b_K_line : ByteArray := prog_1_method_17_code
def y_K_line : MethodName := ⟨"ConicKinds", "line", "(II)J"⟩
abbrev b_K_takeLines : ByteArray := prog_1_method_40_code
def y_K_takeLines : MethodName := ⟨"ConicKinds", "takeLines", "(I)I"⟩
abbrev b_K_takeFormRow : ByteArray := prog_1_method_41_code
def y_K_takeFormRow : MethodName := ⟨"ConicKinds", "takeFormRow", "(I)V"⟩
abbrev b_K_joinLines : ByteArray := prog_1_method_42_code
def y_K_joinLines : MethodName := ⟨"ConicKinds", "joinLines", "()Z"⟩
abbrev b_K_rootOf : ByteArray := prog_1_method_43_code
def y_K_rootOf : MethodName := ⟨"ConicKinds", "rootOf", "(J)I"⟩
abbrev b_K_addCrosswise : ByteArray := prog_1_method_44_code
def y_K_addCrosswise : MethodName := ⟨"ConicKinds", "addCrosswise", "(JJJ)V"⟩
abbrev b_K_readLines : ByteArray := prog_1_method_45_code
def y_K_readLines : MethodName := ⟨"ConicKinds", "readLines", "()Z"⟩
abbrev b_K_readLinesAt : ByteArray := prog_1_method_46_code
def y_K_readLinesAt : MethodName := ⟨"ConicKinds", "readLinesAt", "(II)Z"⟩
abbrev b_K_isLess : ByteArray := prog_1_method_47_code
def y_K_isLess : MethodName := ⟨"ConicKinds", "isLess", "([J[J)Z"⟩
abbrev b_K_keep : ByteArray := prog_1_method_18_code
def y_K_keep : MethodName := ⟨"ConicKinds", "keep", "()I"⟩
abbrev b_K_alike : ByteArray := prog_1_method_19_code
def y_K_alike : MethodName := ⟨"ConicKinds", "alike", "()I"⟩
abbrev b_L_height : ByteArray := method_3_code
def y_L_height : MethodName := ⟨"ConicKindsLaw", "height", "(LConicKinds;I[J)I"⟩
abbrev b_K_height : ByteArray := prog_1_method_9_code
def y_K_height : MethodName := ⟨"ConicKinds", "height", "(I)J"⟩
abbrev b_M_init : ByteArray := prog_4_method_1_code
def y_M_init : MethodName := ⟨"ConicKindsModel", "<init>", "()V"⟩
abbrev b_M_thrown : ByteArray := prog_4_method_2_code
def y_M_thrown : MethodName := ⟨"ConicKindsModel", "thrown", "()I"⟩
abbrev b_M_dimension : ByteArray := prog_4_method_4_code
def y_M_dimension : MethodName := ⟨"ConicKindsModel", "dimension", "(I)I"⟩
abbrev b_M_put : ByteArray := prog_4_method_5_code
def y_M_put : MethodName := ⟨"ConicKindsModel", "put", "(III)J"⟩
abbrev b_M_in : ByteArray := prog_4_method_3_code
def y_M_in : MethodName := ⟨"ConicKindsModel", "in", "(JII)Z"⟩
abbrev b_M_kind : ByteArray := prog_4_method_16_code
def y_M_kind : MethodName := ⟨"ConicKindsModel", "kind", "()I"⟩
abbrev b_M_ownKind : ByteArray := prog_4_method_15_code
def y_M_ownKind : MethodName := ⟨"ConicKindsModel", "ownKind", "()I"⟩
abbrev b_M_findAll : ByteArray := prog_4_method_14_code
def y_M_findAll : MethodName := ⟨"ConicKindsModel", "findAll", "()V"⟩
abbrev b_M_take : ByteArray := prog_4_method_6_code
def y_M_take : MethodName := ⟨"ConicKindsModel", "take", "(Z)V"⟩
abbrev b_M_findSigns : ByteArray := prog_4_method_12_code
def y_M_findSigns : MethodName := ⟨"ConicKindsModel", "findSigns", "()V"⟩
abbrev b_M_sums : ByteArray := prog_4_method_11_code
def y_M_sums : MethodName := ⟨"ConicKindsModel", "sums", "(I)J"⟩
abbrev b_M_bitsOf : ByteArray := prog_4_method_10_code
def y_M_bitsOf : MethodName := ⟨"ConicKindsModel", "bitsOf", "(I)I"⟩
abbrev b_M_minor : ByteArray := prog_4_method_7_code
def y_M_minor : MethodName := ⟨"ConicKindsModel", "minor", "(I)J"⟩
abbrev b_M_determinantOf : ByteArray := prog_4_method_8_code
def y_M_determinantOf : MethodName := ⟨"ConicKindsModel", "determinantOf", "(I)J"⟩
abbrev b_M_swapRows : ByteArray := prog_4_method_9_code
def y_M_swapRows : MethodName := ⟨"ConicKindsModel", "swapRows", "(II)V"⟩
abbrev b_M_kindOf : ByteArray := prog_4_method_13_code
def y_M_kindOf : MethodName := ⟨"ConicKindsModel", "kindOf", "(Z)I"⟩
abbrev b_M_signs : ByteArray := prog_4_method_17_code
def y_M_signs : MethodName := ⟨"ConicKindsModel", "signs", "(I)I"⟩
abbrev b_M_determinant : ByteArray := prog_4_method_18_code
def y_M_determinant : MethodName := ⟨"ConicKindsModel", "determinant", "(I)J"⟩
abbrev b_M_middles : ByteArray := prog_4_method_20_code
def y_M_middles : MethodName := ⟨"ConicKindsModel", "middles", "()I"⟩
abbrev b_M_rank : ByteArray := prog_4_method_19_code
def y_M_rank : MethodName := ⟨"ConicKindsModel", "rank", "(Z)I"⟩
abbrev b_M_middle : ByteArray := prog_4_method_23_code
def y_M_middle : MethodName := ⟨"ConicKindsModel", "middle", "(II)J"⟩
abbrev b_M_part : ByteArray := prog_4_method_22_code
def y_M_part : MethodName := ⟨"ConicKindsModel", "part", "(JJI)J"⟩
abbrev b_M_divisor : ByteArray := prog_4_method_21_code
def y_M_divisor : MethodName := ⟨"ConicKindsModel", "divisor", "(JJ)J"⟩
abbrev b_M_height : ByteArray := prog_4_method_24_code
def y_M_height : MethodName := ⟨"ConicKindsModel", "height", "(I)J"⟩
abbrev b_M_below : ByteArray := prog_4_method_25_code
def y_M_below : MethodName := ⟨"ConicKindsModel", "below", "(II)I"⟩
abbrev b_M_unlike : ByteArray := prog_4_method_26_code
def y_M_unlike : MethodName := ⟨"ConicKindsModel", "unlike", "()I"⟩
abbrev b_M_at : ByteArray := prog_4_method_29_code
def y_M_at : MethodName := ⟨"ConicKindsModel", "at", "(IIII)I"⟩
abbrev b_M_isPoint : ByteArray := prog_4_method_27_code
def y_M_isPoint : MethodName := ⟨"ConicKindsModel", "isPoint", "(IIII)Z"⟩
abbrev b_M_polarAt : ByteArray := prog_4_method_28_code
def y_M_polarAt : MethodName := ⟨"ConicKindsModel", "polarAt", "(I)J"⟩
abbrev b_M_polar : ByteArray := prog_4_method_31_code
def y_M_polar : MethodName := ⟨"ConicKindsModel", "polar", "(IIIII)J"⟩
abbrev b_M_without : ByteArray := prog_4_method_30_code
def y_M_without : MethodName := ⟨"ConicKindsModel", "without", "(II)J"⟩
abbrev b_M_touches : ByteArray := prog_4_method_32_code
def y_M_touches : MethodName := ⟨"ConicKindsModel", "touches", "(IIII)I"⟩
abbrev b_M_section : ByteArray := prog_4_method_35_code
def y_M_section : MethodName := ⟨"ConicKindsModel", "section", "(IIII)I"⟩
abbrev b_M_layBase : ByteArray := prog_4_method_34_code
def y_M_layBase : MethodName := ⟨"ConicKindsModel", "layBase", "(IIII)V"⟩
abbrev b_M_layCut : ByteArray := prog_4_method_36_code
def y_M_layCut : MethodName := ⟨"ConicKindsModel", "layCut", "(I)V"⟩
abbrev b_M_formOf : ByteArray := prog_4_method_33_code
def y_M_formOf : MethodName := ⟨"ConicKindsModel", "formOf", "(II)J"⟩
abbrev b_M_meets : ByteArray := prog_4_method_37_code
def y_M_meets : MethodName := ⟨"ConicKindsModel", "meets", "(IIIIII)I"⟩
abbrev b_M_line : ByteArray := prog_4_method_43_code
def y_M_line : MethodName := ⟨"ConicKindsModel", "line", "(II)J"⟩
abbrev b_M_findLines : ByteArray := prog_4_method_41_code
def y_M_findLines : MethodName := ⟨"ConicKindsModel", "findLines", "(I)V"⟩
abbrev b_M_setLine : ByteArray := prog_4_method_39_code
def y_M_setLine : MethodName := ⟨"ConicKindsModel", "setLine", "(IJJJ)V"⟩
abbrev b_M_findTwo : ByteArray := prog_4_method_40_code
def y_M_findTwo : MethodName := ⟨"ConicKindsModel", "findTwo", "(Z)V"⟩
abbrev b_M_root : ByteArray := prog_4_method_38_code
def y_M_root : MethodName := ⟨"ConicKindsModel", "root", "(J)J"⟩
abbrev b_M_isSecondFirst : ByteArray := prog_4_method_42_code
def y_M_isSecondFirst : MethodName := ⟨"ConicKindsModel", "isSecondFirst", "()Z"⟩
abbrev b_M_keep : ByteArray := prog_4_method_44_code
def y_M_keep : MethodName := ⟨"ConicKindsModel", "keep", "()I"⟩
abbrev b_M_alike : ByteArray := prog_4_method_45_code
def y_M_alike : MethodName := ⟨"ConicKindsModel", "alike", "()I"⟩
theorem hd_K_init : y_K_init.cls ≠ "java/lang/invoke/MethodHandle" ∧ y_K_init.cls ≠ "java/lang/invoke/VarHandle" ∧ (parseMethodDescriptor y_K_init.desc).map (fun d => d.parameters.length) = some 0 := by decide +kernel
theorem hd_T_init : y_T_init.cls ≠ "java/lang/invoke/MethodHandle" ∧ y_T_init.cls ≠ "java/lang/invoke/VarHandle" ∧ (parseMethodDescriptor y_T_init.desc).map (fun d => d.parameters.length) = some 0 := by decide +kernel
theorem hd_K_dimension : y_K_dimension.cls ≠ "java/lang/invoke/MethodHandle" ∧ y_K_dimension.cls ≠ "java/lang/invoke/VarHandle" ∧ (parseMethodDescriptor y_K_dimension.desc).map (fun d => d.parameters.length) = some 1 := by decide +kernel
theorem hd_A_fill : y_A_fill.cls ≠ "java/lang/invoke/MethodHandle" ∧ y_A_fill.cls ≠ "java/lang/invoke/VarHandle" ∧ (parseMethodDescriptor y_A_fill.desc).map (fun d => d.parameters.length) = some 2 := by decide +kernel
theorem hd_K_put : y_K_put.cls ≠ "java/lang/invoke/MethodHandle" ∧ y_K_put.cls ≠ "java/lang/invoke/VarHandle" ∧ (parseMethodDescriptor y_K_put.desc).map (fun d => d.parameters.length) = some 3 := by decide +kernel
theorem hd_K_isNoPlace : y_K_isNoPlace.cls ≠ "java/lang/invoke/MethodHandle" ∧ y_K_isNoPlace.cls ≠ "java/lang/invoke/VarHandle" ∧ (parseMethodDescriptor y_K_isNoPlace.desc).map (fun d => d.parameters.length) = some 1 := by decide +kernel
theorem hd_K_isBeyond : y_K_isBeyond.cls ≠ "java/lang/invoke/MethodHandle" ∧ y_K_isBeyond.cls ≠ "java/lang/invoke/VarHandle" ∧ (parseMethodDescriptor y_K_isBeyond.desc).map (fun d => d.parameters.length) = some 2 := by decide +kernel
theorem hd_K_place : y_K_place.cls ≠ "java/lang/invoke/MethodHandle" ∧ y_K_place.cls ≠ "java/lang/invoke/VarHandle" ∧ (parseMethodDescriptor y_K_place.desc).map (fun d => d.parameters.length) = some 2 := by decide +kernel
theorem hd_K_kind : y_K_kind.cls ≠ "java/lang/invoke/MethodHandle" ∧ y_K_kind.cls ≠ "java/lang/invoke/VarHandle" ∧ (parseMethodDescriptor y_K_kind.desc).map (fun d => d.parameters.length) = some 0 := by decide +kernel
theorem hd_K_kindOf : y_K_kindOf.cls ≠ "java/lang/invoke/MethodHandle" ∧ y_K_kindOf.cls ≠ "java/lang/invoke/VarHandle" ∧ (parseMethodDescriptor y_K_kindOf.desc).map (fun d => d.parameters.length) = some 2 := by decide +kernel
theorem hd_T_load : y_T_load.cls ≠ "java/lang/invoke/MethodHandle" ∧ y_T_load.cls ≠ "java/lang/invoke/VarHandle" ∧ (parseMethodDescriptor y_T_load.desc).map (fun d => d.parameters.length) = some 3 := by decide +kernel
theorem hd_T_expand : y_T_expand.cls ≠ "java/lang/invoke/MethodHandle" ∧ y_T_expand.cls ≠ "java/lang/invoke/VarHandle" ∧ (parseMethodDescriptor y_T_expand.desc).map (fun d => d.parameters.length) = some 0 := by decide +kernel
theorem hd_T_multiply : y_T_multiply.cls ≠ "java/lang/invoke/MethodHandle" ∧ y_T_multiply.cls ≠ "java/lang/invoke/VarHandle" ∧ (parseMethodDescriptor y_T_multiply.desc).map (fun d => d.parameters.length) = some 0 := by decide +kernel
theorem hd_T_diagonal : y_T_diagonal.cls ≠ "java/lang/invoke/MethodHandle" ∧ y_T_diagonal.cls ≠ "java/lang/invoke/VarHandle" ∧ (parseMethodDescriptor y_T_diagonal.desc).map (fun d => d.parameters.length) = some 0 := by decide +kernel
theorem hd_T_countAbove : y_T_countAbove.cls ≠ "java/lang/invoke/MethodHandle" ∧ y_T_countAbove.cls ≠ "java/lang/invoke/VarHandle" ∧ (parseMethodDescriptor y_T_countAbove.desc).map (fun d => d.parameters.length) = some 0 := by decide +kernel
theorem hd_T_countBelow : y_T_countBelow.cls ≠ "java/lang/invoke/MethodHandle" ∧ y_T_countBelow.cls ≠ "java/lang/invoke/VarHandle" ∧ (parseMethodDescriptor y_T_countBelow.desc).map (fun d => d.parameters.length) = some 0 := by decide +kernel
theorem hd_T_rank : y_T_rank.cls ≠ "java/lang/invoke/MethodHandle" ∧ y_T_rank.cls ≠ "java/lang/invoke/VarHandle" ∧ (parseMethodDescriptor y_T_rank.desc).map (fun d => d.parameters.length) = some 0 := by decide +kernel
theorem hd_K_codeOf : y_K_codeOf.cls ≠ "java/lang/invoke/MethodHandle" ∧ y_K_codeOf.cls ≠ "java/lang/invoke/VarHandle" ∧ (parseMethodDescriptor y_K_codeOf.desc).map (fun d => d.parameters.length) = some 4 := by decide +kernel
theorem hd_K_kindInPlane : y_K_kindInPlane.cls ≠ "java/lang/invoke/MethodHandle" ∧ y_K_kindInPlane.cls ≠ "java/lang/invoke/VarHandle" ∧ (parseMethodDescriptor y_K_kindInPlane.desc).map (fun d => d.parameters.length) = some 1 := by decide +kernel
theorem hd_K_kindInSpace : y_K_kindInSpace.cls ≠ "java/lang/invoke/MethodHandle" ∧ y_K_kindInSpace.cls ≠ "java/lang/invoke/VarHandle" ∧ (parseMethodDescriptor y_K_kindInSpace.desc).map (fun d => d.parameters.length) = some 1 := by decide +kernel
theorem hd_K_signs : y_K_signs.cls ≠ "java/lang/invoke/MethodHandle" ∧ y_K_signs.cls ≠ "java/lang/invoke/VarHandle" ∧ (parseMethodDescriptor y_K_signs.desc).map (fun d => d.parameters.length) = some 1 := by decide +kernel
theorem hd_K_determinant : y_K_determinant.cls ≠ "java/lang/invoke/MethodHandle" ∧ y_K_determinant.cls ≠ "java/lang/invoke/VarHandle" ∧ (parseMethodDescriptor y_K_determinant.desc).map (fun d => d.parameters.length) = some 1 := by decide +kernel
theorem hd_T_sumOfValues : y_T_sumOfValues.cls ≠ "java/lang/invoke/MethodHandle" ∧ y_T_sumOfValues.cls ≠ "java/lang/invoke/VarHandle" ∧ (parseMethodDescriptor y_T_sumOfValues.desc).map (fun d => d.parameters.length) = some 0 := by decide +kernel
theorem hd_T_sumOfPairs : y_T_sumOfPairs.cls ≠ "java/lang/invoke/MethodHandle" ∧ y_T_sumOfPairs.cls ≠ "java/lang/invoke/VarHandle" ∧ (parseMethodDescriptor y_T_sumOfPairs.desc).map (fun d => d.parameters.length) = some 0 := by decide +kernel
theorem hd_T_productOfValues : y_T_productOfValues.cls ≠ "java/lang/invoke/MethodHandle" ∧ y_T_productOfValues.cls ≠ "java/lang/invoke/VarHandle" ∧ (parseMethodDescriptor y_T_productOfValues.desc).map (fun d => d.parameters.length) = some 0 := by decide +kernel
theorem hd_K_middles : y_K_middles.cls ≠ "java/lang/invoke/MethodHandle" ∧ y_K_middles.cls ≠ "java/lang/invoke/VarHandle" ∧ (parseMethodDescriptor y_K_middles.desc).map (fun d => d.parameters.length) = some 0 := by decide +kernel
theorem hd_K_middle : y_K_middle.cls ≠ "java/lang/invoke/MethodHandle" ∧ y_K_middle.cls ≠ "java/lang/invoke/VarHandle" ∧ (parseMethodDescriptor y_K_middle.desc).map (fun d => d.parameters.length) = some 2 := by decide +kernel
theorem hd_K_isNoPart : y_K_isNoPart.cls ≠ "java/lang/invoke/MethodHandle" ∧ y_K_isNoPart.cls ≠ "java/lang/invoke/VarHandle" ∧ (parseMethodDescriptor y_K_isNoPart.desc).map (fun d => d.parameters.length) = some 1 := by decide +kernel
theorem hd_T_adjugate : y_T_adjugate.cls ≠ "java/lang/invoke/MethodHandle" ∧ y_T_adjugate.cls ≠ "java/lang/invoke/VarHandle" ∧ (parseMethodDescriptor y_T_adjugate.desc).map (fun d => d.parameters.length) = some 2 := by decide +kernel
theorem hd_K_partOfFraction : y_K_partOfFraction.cls ≠ "java/lang/invoke/MethodHandle" ∧ y_K_partOfFraction.cls ≠ "java/lang/invoke/VarHandle" ∧ (parseMethodDescriptor y_K_partOfFraction.desc).map (fun d => d.parameters.length) = some 3 := by decide +kernel
theorem hd_K_greatestDivisor : y_K_greatestDivisor.cls ≠ "java/lang/invoke/MethodHandle" ∧ y_K_greatestDivisor.cls ≠ "java/lang/invoke/VarHandle" ∧ (parseMethodDescriptor y_K_greatestDivisor.desc).map (fun d => d.parameters.length) = some 2 := by decide +kernel
theorem hd_K_below : y_K_below.cls ≠ "java/lang/invoke/MethodHandle" ∧ y_K_below.cls ≠ "java/lang/invoke/VarHandle" ∧ (parseMethodDescriptor y_K_below.desc).map (fun d => d.parameters.length) = some 2 := by decide +kernel
theorem hd_K_unlike : y_K_unlike.cls ≠ "java/lang/invoke/MethodHandle" ∧ y_K_unlike.cls ≠ "java/lang/invoke/VarHandle" ∧ (parseMethodDescriptor y_K_unlike.desc).map (fun d => d.parameters.length) = some 0 := by decide +kernel
theorem hd_T_countUnlike : y_T_countUnlike.cls ≠ "java/lang/invoke/MethodHandle" ∧ y_T_countUnlike.cls ≠ "java/lang/invoke/VarHandle" ∧ (parseMethodDescriptor y_T_countUnlike.desc).map (fun d => d.parameters.length) = some 0 := by decide +kernel
theorem hd_T_discriminant : y_T_discriminant.cls ≠ "java/lang/invoke/MethodHandle" ∧ y_T_discriminant.cls ≠ "java/lang/invoke/VarHandle" ∧ (parseMethodDescriptor y_T_discriminant.desc).map (fun d => d.parameters.length) = some 3 := by decide +kernel
theorem hd_K_at : y_K_at.cls ≠ "java/lang/invoke/MethodHandle" ∧ y_K_at.cls ≠ "java/lang/invoke/VarHandle" ∧ (parseMethodDescriptor y_K_at.desc).map (fun d => d.parameters.length) = some 4 := by decide +kernel
theorem hd_K_takePoint : y_K_takePoint.cls ≠ "java/lang/invoke/MethodHandle" ∧ y_K_takePoint.cls ≠ "java/lang/invoke/VarHandle" ∧ (parseMethodDescriptor y_K_takePoint.desc).map (fun d => d.parameters.length) = some 4 := by decide +kernel
theorem hd_K_setRow : y_K_setRow.cls ≠ "java/lang/invoke/MethodHandle" ∧ y_K_setRow.cls ≠ "java/lang/invoke/VarHandle" ∧ (parseMethodDescriptor y_K_setRow.desc).map (fun d => d.parameters.length) = some 5 := by decide +kernel
theorem hd_K_isRowBeyond : y_K_isRowBeyond.cls ≠ "java/lang/invoke/MethodHandle" ∧ y_K_isRowBeyond.cls ≠ "java/lang/invoke/VarHandle" ∧ (parseMethodDescriptor y_K_isRowBeyond.desc).map (fun d => d.parameters.length) = some 2 := by decide +kernel
theorem hd_K_formOf : y_K_formOf.cls ≠ "java/lang/invoke/MethodHandle" ∧ y_K_formOf.cls ≠ "java/lang/invoke/VarHandle" ∧ (parseMethodDescriptor y_K_formOf.desc).map (fun d => d.parameters.length) = some 2 := by decide +kernel
theorem hd_K_rowTimes : y_K_rowTimes.cls ≠ "java/lang/invoke/MethodHandle" ∧ y_K_rowTimes.cls ≠ "java/lang/invoke/VarHandle" ∧ (parseMethodDescriptor y_K_rowTimes.desc).map (fun d => d.parameters.length) = some 2 := by decide +kernel
theorem hd_K_signCode : y_K_signCode.cls ≠ "java/lang/invoke/MethodHandle" ∧ y_K_signCode.cls ≠ "java/lang/invoke/VarHandle" ∧ (parseMethodDescriptor y_K_signCode.desc).map (fun d => d.parameters.length) = some 1 := by decide +kernel
theorem hd_K_polar : y_K_polar.cls ≠ "java/lang/invoke/MethodHandle" ∧ y_K_polar.cls ≠ "java/lang/invoke/VarHandle" ∧ (parseMethodDescriptor y_K_polar.desc).map (fun d => d.parameters.length) = some 5 := by decide +kernel
theorem hd_K_clearDivisor : y_K_clearDivisor.cls ≠ "java/lang/invoke/MethodHandle" ∧ y_K_clearDivisor.cls ≠ "java/lang/invoke/VarHandle" ∧ (parseMethodDescriptor y_K_clearDivisor.desc).map (fun d => d.parameters.length) = some 2 := by decide +kernel
theorem hd_K_touches : y_K_touches.cls ≠ "java/lang/invoke/MethodHandle" ∧ y_K_touches.cls ≠ "java/lang/invoke/VarHandle" ∧ (parseMethodDescriptor y_K_touches.desc).map (fun d => d.parameters.length) = some 4 := by decide +kernel
theorem hd_K_isAllZero : y_K_isAllZero.cls ≠ "java/lang/invoke/MethodHandle" ∧ y_K_isAllZero.cls ≠ "java/lang/invoke/VarHandle" ∧ (parseMethodDescriptor y_K_isAllZero.desc).map (fun d => d.parameters.length) = some 3 := by decide +kernel
theorem hd_K_section : y_K_section.cls ≠ "java/lang/invoke/MethodHandle" ∧ y_K_section.cls ≠ "java/lang/invoke/VarHandle" ∧ (parseMethodDescriptor y_K_section.desc).map (fun d => d.parameters.length) = some 4 := by decide +kernel
theorem hd_K_cutInto : y_K_cutInto.cls ≠ "java/lang/invoke/MethodHandle" ∧ y_K_cutInto.cls ≠ "java/lang/invoke/VarHandle" ∧ (parseMethodDescriptor y_K_cutInto.desc).map (fun d => d.parameters.length) = some 2 := by decide +kernel
theorem hd_K_cutCell : y_K_cutCell.cls ≠ "java/lang/invoke/MethodHandle" ∧ y_K_cutCell.cls ≠ "java/lang/invoke/VarHandle" ∧ (parseMethodDescriptor y_K_cutCell.desc).map (fun d => d.parameters.length) = some 3 := by decide +kernel
theorem hd_K_meets : y_K_meets.cls ≠ "java/lang/invoke/MethodHandle" ∧ y_K_meets.cls ≠ "java/lang/invoke/VarHandle" ∧ (parseMethodDescriptor y_K_meets.desc).map (fun d => d.parameters.length) = some 6 := by decide +kernel
theorem hd_K_line : y_K_line.cls ≠ "java/lang/invoke/MethodHandle" ∧ y_K_line.cls ≠ "java/lang/invoke/VarHandle" ∧ (parseMethodDescriptor y_K_line.desc).map (fun d => d.parameters.length) = some 2 := by decide +kernel
theorem hd_K_takeLines : y_K_takeLines.cls ≠ "java/lang/invoke/MethodHandle" ∧ y_K_takeLines.cls ≠ "java/lang/invoke/VarHandle" ∧ (parseMethodDescriptor y_K_takeLines.desc).map (fun d => d.parameters.length) = some 1 := by decide +kernel
theorem hd_K_takeFormRow : y_K_takeFormRow.cls ≠ "java/lang/invoke/MethodHandle" ∧ y_K_takeFormRow.cls ≠ "java/lang/invoke/VarHandle" ∧ (parseMethodDescriptor y_K_takeFormRow.desc).map (fun d => d.parameters.length) = some 1 := by decide +kernel
theorem hd_K_joinLines : y_K_joinLines.cls ≠ "java/lang/invoke/MethodHandle" ∧ y_K_joinLines.cls ≠ "java/lang/invoke/VarHandle" ∧ (parseMethodDescriptor y_K_joinLines.desc).map (fun d => d.parameters.length) = some 0 := by decide +kernel
theorem hd_K_rootOf : y_K_rootOf.cls ≠ "java/lang/invoke/MethodHandle" ∧ y_K_rootOf.cls ≠ "java/lang/invoke/VarHandle" ∧ (parseMethodDescriptor y_K_rootOf.desc).map (fun d => d.parameters.length) = some 1 := by decide +kernel
theorem hd_K_addCrosswise : y_K_addCrosswise.cls ≠ "java/lang/invoke/MethodHandle" ∧ y_K_addCrosswise.cls ≠ "java/lang/invoke/VarHandle" ∧ (parseMethodDescriptor y_K_addCrosswise.desc).map (fun d => d.parameters.length) = some 3 := by decide +kernel
theorem hd_K_readLines : y_K_readLines.cls ≠ "java/lang/invoke/MethodHandle" ∧ y_K_readLines.cls ≠ "java/lang/invoke/VarHandle" ∧ (parseMethodDescriptor y_K_readLines.desc).map (fun d => d.parameters.length) = some 0 := by decide +kernel
theorem hd_K_readLinesAt : y_K_readLinesAt.cls ≠ "java/lang/invoke/MethodHandle" ∧ y_K_readLinesAt.cls ≠ "java/lang/invoke/VarHandle" ∧ (parseMethodDescriptor y_K_readLinesAt.desc).map (fun d => d.parameters.length) = some 2 := by decide +kernel
theorem hd_K_isLess : y_K_isLess.cls ≠ "java/lang/invoke/MethodHandle" ∧ y_K_isLess.cls ≠ "java/lang/invoke/VarHandle" ∧ (parseMethodDescriptor y_K_isLess.desc).map (fun d => d.parameters.length) = some 2 := by decide +kernel
theorem hd_K_keep : y_K_keep.cls ≠ "java/lang/invoke/MethodHandle" ∧ y_K_keep.cls ≠ "java/lang/invoke/VarHandle" ∧ (parseMethodDescriptor y_K_keep.desc).map (fun d => d.parameters.length) = some 0 := by decide +kernel
theorem hd_K_alike : y_K_alike.cls ≠ "java/lang/invoke/MethodHandle" ∧ y_K_alike.cls ≠ "java/lang/invoke/VarHandle" ∧ (parseMethodDescriptor y_K_alike.desc).map (fun d => d.parameters.length) = some 0 := by decide +kernel
theorem hd_L_height : y_L_height.cls ≠ "java/lang/invoke/MethodHandle" ∧ y_L_height.cls ≠ "java/lang/invoke/VarHandle" ∧ (parseMethodDescriptor y_L_height.desc).map (fun d => d.parameters.length) = some 3 := by decide +kernel
theorem hd_K_height : y_K_height.cls ≠ "java/lang/invoke/MethodHandle" ∧ y_K_height.cls ≠ "java/lang/invoke/VarHandle" ∧ (parseMethodDescriptor y_K_height.desc).map (fun d => d.parameters.length) = some 1 := by decide +kernel
theorem hd_M_init : y_M_init.cls ≠ "java/lang/invoke/MethodHandle" ∧ y_M_init.cls ≠ "java/lang/invoke/VarHandle" ∧ (parseMethodDescriptor y_M_init.desc).map (fun d => d.parameters.length) = some 0 := by decide +kernel
theorem hd_M_thrown : y_M_thrown.cls ≠ "java/lang/invoke/MethodHandle" ∧ y_M_thrown.cls ≠ "java/lang/invoke/VarHandle" ∧ (parseMethodDescriptor y_M_thrown.desc).map (fun d => d.parameters.length) = some 0 := by decide +kernel
theorem hd_M_dimension : y_M_dimension.cls ≠ "java/lang/invoke/MethodHandle" ∧ y_M_dimension.cls ≠ "java/lang/invoke/VarHandle" ∧ (parseMethodDescriptor y_M_dimension.desc).map (fun d => d.parameters.length) = some 1 := by decide +kernel
theorem hd_M_put : y_M_put.cls ≠ "java/lang/invoke/MethodHandle" ∧ y_M_put.cls ≠ "java/lang/invoke/VarHandle" ∧ (parseMethodDescriptor y_M_put.desc).map (fun d => d.parameters.length) = some 3 := by decide +kernel
theorem hd_M_in : y_M_in.cls ≠ "java/lang/invoke/MethodHandle" ∧ y_M_in.cls ≠ "java/lang/invoke/VarHandle" ∧ (parseMethodDescriptor y_M_in.desc).map (fun d => d.parameters.length) = some 3 := by decide +kernel
theorem hd_M_kind : y_M_kind.cls ≠ "java/lang/invoke/MethodHandle" ∧ y_M_kind.cls ≠ "java/lang/invoke/VarHandle" ∧ (parseMethodDescriptor y_M_kind.desc).map (fun d => d.parameters.length) = some 0 := by decide +kernel
theorem hd_M_ownKind : y_M_ownKind.cls ≠ "java/lang/invoke/MethodHandle" ∧ y_M_ownKind.cls ≠ "java/lang/invoke/VarHandle" ∧ (parseMethodDescriptor y_M_ownKind.desc).map (fun d => d.parameters.length) = some 0 := by decide +kernel
theorem hd_M_findAll : y_M_findAll.cls ≠ "java/lang/invoke/MethodHandle" ∧ y_M_findAll.cls ≠ "java/lang/invoke/VarHandle" ∧ (parseMethodDescriptor y_M_findAll.desc).map (fun d => d.parameters.length) = some 0 := by decide +kernel
theorem hd_M_take : y_M_take.cls ≠ "java/lang/invoke/MethodHandle" ∧ y_M_take.cls ≠ "java/lang/invoke/VarHandle" ∧ (parseMethodDescriptor y_M_take.desc).map (fun d => d.parameters.length) = some 1 := by decide +kernel
theorem hd_M_findSigns : y_M_findSigns.cls ≠ "java/lang/invoke/MethodHandle" ∧ y_M_findSigns.cls ≠ "java/lang/invoke/VarHandle" ∧ (parseMethodDescriptor y_M_findSigns.desc).map (fun d => d.parameters.length) = some 0 := by decide +kernel
theorem hd_M_sums : y_M_sums.cls ≠ "java/lang/invoke/MethodHandle" ∧ y_M_sums.cls ≠ "java/lang/invoke/VarHandle" ∧ (parseMethodDescriptor y_M_sums.desc).map (fun d => d.parameters.length) = some 1 := by decide +kernel
theorem hd_M_bitsOf : y_M_bitsOf.cls ≠ "java/lang/invoke/MethodHandle" ∧ y_M_bitsOf.cls ≠ "java/lang/invoke/VarHandle" ∧ (parseMethodDescriptor y_M_bitsOf.desc).map (fun d => d.parameters.length) = some 1 := by decide +kernel
theorem hd_M_minor : y_M_minor.cls ≠ "java/lang/invoke/MethodHandle" ∧ y_M_minor.cls ≠ "java/lang/invoke/VarHandle" ∧ (parseMethodDescriptor y_M_minor.desc).map (fun d => d.parameters.length) = some 1 := by decide +kernel
theorem hd_M_determinantOf : y_M_determinantOf.cls ≠ "java/lang/invoke/MethodHandle" ∧ y_M_determinantOf.cls ≠ "java/lang/invoke/VarHandle" ∧ (parseMethodDescriptor y_M_determinantOf.desc).map (fun d => d.parameters.length) = some 1 := by decide +kernel
theorem hd_M_swapRows : y_M_swapRows.cls ≠ "java/lang/invoke/MethodHandle" ∧ y_M_swapRows.cls ≠ "java/lang/invoke/VarHandle" ∧ (parseMethodDescriptor y_M_swapRows.desc).map (fun d => d.parameters.length) = some 2 := by decide +kernel
theorem hd_M_kindOf : y_M_kindOf.cls ≠ "java/lang/invoke/MethodHandle" ∧ y_M_kindOf.cls ≠ "java/lang/invoke/VarHandle" ∧ (parseMethodDescriptor y_M_kindOf.desc).map (fun d => d.parameters.length) = some 1 := by decide +kernel
theorem hd_M_signs : y_M_signs.cls ≠ "java/lang/invoke/MethodHandle" ∧ y_M_signs.cls ≠ "java/lang/invoke/VarHandle" ∧ (parseMethodDescriptor y_M_signs.desc).map (fun d => d.parameters.length) = some 1 := by decide +kernel
theorem hd_M_determinant : y_M_determinant.cls ≠ "java/lang/invoke/MethodHandle" ∧ y_M_determinant.cls ≠ "java/lang/invoke/VarHandle" ∧ (parseMethodDescriptor y_M_determinant.desc).map (fun d => d.parameters.length) = some 1 := by decide +kernel
theorem hd_M_middles : y_M_middles.cls ≠ "java/lang/invoke/MethodHandle" ∧ y_M_middles.cls ≠ "java/lang/invoke/VarHandle" ∧ (parseMethodDescriptor y_M_middles.desc).map (fun d => d.parameters.length) = some 0 := by decide +kernel
theorem hd_M_rank : y_M_rank.cls ≠ "java/lang/invoke/MethodHandle" ∧ y_M_rank.cls ≠ "java/lang/invoke/VarHandle" ∧ (parseMethodDescriptor y_M_rank.desc).map (fun d => d.parameters.length) = some 1 := by decide +kernel
theorem hd_M_middle : y_M_middle.cls ≠ "java/lang/invoke/MethodHandle" ∧ y_M_middle.cls ≠ "java/lang/invoke/VarHandle" ∧ (parseMethodDescriptor y_M_middle.desc).map (fun d => d.parameters.length) = some 2 := by decide +kernel
theorem hd_M_part : y_M_part.cls ≠ "java/lang/invoke/MethodHandle" ∧ y_M_part.cls ≠ "java/lang/invoke/VarHandle" ∧ (parseMethodDescriptor y_M_part.desc).map (fun d => d.parameters.length) = some 3 := by decide +kernel
theorem hd_M_divisor : y_M_divisor.cls ≠ "java/lang/invoke/MethodHandle" ∧ y_M_divisor.cls ≠ "java/lang/invoke/VarHandle" ∧ (parseMethodDescriptor y_M_divisor.desc).map (fun d => d.parameters.length) = some 2 := by decide +kernel
theorem hd_M_height : y_M_height.cls ≠ "java/lang/invoke/MethodHandle" ∧ y_M_height.cls ≠ "java/lang/invoke/VarHandle" ∧ (parseMethodDescriptor y_M_height.desc).map (fun d => d.parameters.length) = some 1 := by decide +kernel
theorem hd_M_below : y_M_below.cls ≠ "java/lang/invoke/MethodHandle" ∧ y_M_below.cls ≠ "java/lang/invoke/VarHandle" ∧ (parseMethodDescriptor y_M_below.desc).map (fun d => d.parameters.length) = some 2 := by decide +kernel
theorem hd_M_unlike : y_M_unlike.cls ≠ "java/lang/invoke/MethodHandle" ∧ y_M_unlike.cls ≠ "java/lang/invoke/VarHandle" ∧ (parseMethodDescriptor y_M_unlike.desc).map (fun d => d.parameters.length) = some 0 := by decide +kernel
theorem hd_M_at : y_M_at.cls ≠ "java/lang/invoke/MethodHandle" ∧ y_M_at.cls ≠ "java/lang/invoke/VarHandle" ∧ (parseMethodDescriptor y_M_at.desc).map (fun d => d.parameters.length) = some 4 := by decide +kernel
theorem hd_M_isPoint : y_M_isPoint.cls ≠ "java/lang/invoke/MethodHandle" ∧ y_M_isPoint.cls ≠ "java/lang/invoke/VarHandle" ∧ (parseMethodDescriptor y_M_isPoint.desc).map (fun d => d.parameters.length) = some 4 := by decide +kernel
theorem hd_M_polarAt : y_M_polarAt.cls ≠ "java/lang/invoke/MethodHandle" ∧ y_M_polarAt.cls ≠ "java/lang/invoke/VarHandle" ∧ (parseMethodDescriptor y_M_polarAt.desc).map (fun d => d.parameters.length) = some 1 := by decide +kernel
theorem hd_M_polar : y_M_polar.cls ≠ "java/lang/invoke/MethodHandle" ∧ y_M_polar.cls ≠ "java/lang/invoke/VarHandle" ∧ (parseMethodDescriptor y_M_polar.desc).map (fun d => d.parameters.length) = some 5 := by decide +kernel
theorem hd_M_without : y_M_without.cls ≠ "java/lang/invoke/MethodHandle" ∧ y_M_without.cls ≠ "java/lang/invoke/VarHandle" ∧ (parseMethodDescriptor y_M_without.desc).map (fun d => d.parameters.length) = some 2 := by decide +kernel
theorem hd_M_touches : y_M_touches.cls ≠ "java/lang/invoke/MethodHandle" ∧ y_M_touches.cls ≠ "java/lang/invoke/VarHandle" ∧ (parseMethodDescriptor y_M_touches.desc).map (fun d => d.parameters.length) = some 4 := by decide +kernel
theorem hd_M_section : y_M_section.cls ≠ "java/lang/invoke/MethodHandle" ∧ y_M_section.cls ≠ "java/lang/invoke/VarHandle" ∧ (parseMethodDescriptor y_M_section.desc).map (fun d => d.parameters.length) = some 4 := by decide +kernel
theorem hd_M_layBase : y_M_layBase.cls ≠ "java/lang/invoke/MethodHandle" ∧ y_M_layBase.cls ≠ "java/lang/invoke/VarHandle" ∧ (parseMethodDescriptor y_M_layBase.desc).map (fun d => d.parameters.length) = some 4 := by decide +kernel
theorem hd_M_layCut : y_M_layCut.cls ≠ "java/lang/invoke/MethodHandle" ∧ y_M_layCut.cls ≠ "java/lang/invoke/VarHandle" ∧ (parseMethodDescriptor y_M_layCut.desc).map (fun d => d.parameters.length) = some 1 := by decide +kernel
theorem hd_M_formOf : y_M_formOf.cls ≠ "java/lang/invoke/MethodHandle" ∧ y_M_formOf.cls ≠ "java/lang/invoke/VarHandle" ∧ (parseMethodDescriptor y_M_formOf.desc).map (fun d => d.parameters.length) = some 2 := by decide +kernel
theorem hd_M_meets : y_M_meets.cls ≠ "java/lang/invoke/MethodHandle" ∧ y_M_meets.cls ≠ "java/lang/invoke/VarHandle" ∧ (parseMethodDescriptor y_M_meets.desc).map (fun d => d.parameters.length) = some 6 := by decide +kernel
theorem hd_M_line : y_M_line.cls ≠ "java/lang/invoke/MethodHandle" ∧ y_M_line.cls ≠ "java/lang/invoke/VarHandle" ∧ (parseMethodDescriptor y_M_line.desc).map (fun d => d.parameters.length) = some 2 := by decide +kernel
theorem hd_M_findLines : y_M_findLines.cls ≠ "java/lang/invoke/MethodHandle" ∧ y_M_findLines.cls ≠ "java/lang/invoke/VarHandle" ∧ (parseMethodDescriptor y_M_findLines.desc).map (fun d => d.parameters.length) = some 1 := by decide +kernel
theorem hd_M_setLine : y_M_setLine.cls ≠ "java/lang/invoke/MethodHandle" ∧ y_M_setLine.cls ≠ "java/lang/invoke/VarHandle" ∧ (parseMethodDescriptor y_M_setLine.desc).map (fun d => d.parameters.length) = some 4 := by decide +kernel
theorem hd_M_findTwo : y_M_findTwo.cls ≠ "java/lang/invoke/MethodHandle" ∧ y_M_findTwo.cls ≠ "java/lang/invoke/VarHandle" ∧ (parseMethodDescriptor y_M_findTwo.desc).map (fun d => d.parameters.length) = some 1 := by decide +kernel
theorem hd_M_root : y_M_root.cls ≠ "java/lang/invoke/MethodHandle" ∧ y_M_root.cls ≠ "java/lang/invoke/VarHandle" ∧ (parseMethodDescriptor y_M_root.desc).map (fun d => d.parameters.length) = some 1 := by decide +kernel
theorem hd_M_isSecondFirst : y_M_isSecondFirst.cls ≠ "java/lang/invoke/MethodHandle" ∧ y_M_isSecondFirst.cls ≠ "java/lang/invoke/VarHandle" ∧ (parseMethodDescriptor y_M_isSecondFirst.desc).map (fun d => d.parameters.length) = some 0 := by decide +kernel
theorem hd_M_keep : y_M_keep.cls ≠ "java/lang/invoke/MethodHandle" ∧ y_M_keep.cls ≠ "java/lang/invoke/VarHandle" ∧ (parseMethodDescriptor y_M_keep.desc).map (fun d => d.parameters.length) = some 0 := by decide +kernel
theorem hd_M_alike : y_M_alike.cls ≠ "java/lang/invoke/MethodHandle" ∧ y_M_alike.cls ≠ "java/lang/invoke/VarHandle" ∧ (parseMethodDescriptor y_M_alike.desc).map (fun d => d.parameters.length) = some 0 := by decide +kernel
/-- the words that every method may use -/
def tW : List Cond := lw_tbl.filter goodWord
theorem tw_in {w : Cond} (i : Nat) (h : tables_1[i]? = some w) (g : goodWord w = true) : w ∈ tW := List.mem_filter.mpr ⟨List.mem_append_right _ (List.mem_of_getElem? h), g⟩
theorem tw_sel {w : Cond} (i : Nat) (h : (k2_sels lw_privs)[i]? = some w) (g : goodWord w = true) : w ∈ tW := List.mem_filter.mpr ⟨List.mem_append_left _ (List.mem_of_getElem? h), g⟩
theorem tW_good : GoodIn lw_tbl tW := fun w h => ⟨(List.mem_filter.mp h).1, good_of_word (List.mem_filter.mp h).2⟩
theorem tW_self : GoodIn tW tW := fun w h => ⟨h, good_of_word (List.mem_filter.mp h).2⟩
theorem tw_0 : (Cond.initialized R_L) ∈ tW := tw_in 0 (by decide +kernel) (by decide +kernel)
theorem tw_1 : (Cond.initialized R_K) ∈ tW := tw_in 1 (by decide +kernel) (by decide +kernel)
theorem tw_2 : (Cond.initialized R_T) ∈ tW := tw_in 2 (by decide +kernel) (by decide +kernel)
theorem tw_3 : (Cond.initialized R_M) ∈ tW := tw_in 3 (by decide +kernel) (by decide +kernel)
theorem tw_4 : (Cond.initialized R_A) ∈ tW := tw_in 4 (by decide +kernel) (by decide +kernel)
theorem tw_5 : (Cond.initialized "java/lang/System") ∈ tW := tw_in 5 (by decide +kernel) (by decide +kernel)
theorem tw_6 : (Cond.initialized "java/lang/Math") ∈ tW := tw_in 6 (by decide +kernel) (by decide +kernel)
theorem tw_11 : (Cond.classLink R_L 8 R_K) ∈ tW := tw_in 11 (by decide +kernel) (by decide +kernel)
theorem tw_12 : (Cond.instantiable R_K 8) ∈ tW := tw_in 12 (by decide +kernel) (by decide +kernel)
theorem tw_13 : (Cond.methodLink R_L 15 y_K_init) ∈ tW := tw_in 13 (by decide +kernel) (by decide +kernel)
theorem tw_14 : (Cond.instanceMethod y_K_init) ∈ tW := tw_in 14 (by decide +kernel) (by decide +kernel)
theorem tw_15 : (Cond.code y_K_init prog_1_method_1_code 1 none) ∈ tW := tw_in 15 (by decide +kernel) (by decide +kernel)
theorem tw_16 : (Cond.methodLink R_K 1 objectInit) ∈ tW := tw_in 16 (by decide +kernel) (by decide +kernel)
theorem tw_17 : (Cond.instanceMethod objectInit) ∈ tW := tw_in 17 (by decide +kernel) (by decide +kernel)
theorem tw_18 : (Cond.code objectInit object_method_1_code 1 none) ∈ tW := tw_in 18 (by decide +kernel) (by decide +kernel)
theorem tw_19 : (Cond.classLink R_K 24 R_T) ∈ tW := tw_in 19 (by decide +kernel) (by decide +kernel)
theorem tw_20 : (Cond.instantiable R_T 5) ∈ tW := tw_in 20 (by decide +kernel) (by decide +kernel)
theorem tw_22 : (Cond.instanceMethod y_T_init) ∈ tW := tw_in 22 (by decide +kernel) (by decide +kernel)
theorem tw_23 : (Cond.code y_T_init prog_2_method_1_code 1 none) ∈ tW := tw_in 23 (by decide +kernel) (by decide +kernel)
theorem tw_24 : (Cond.methodLink R_T 3 objectInit) ∈ tW := tw_in 24 (by decide +kernel) (by decide +kernel)
theorem tw_25 : (Cond.fieldLink R_T 9 R_T "rows" "I") ∈ tW := tw_in 25 (by decide +kernel) (by decide +kernel)
theorem tw_26 : (Cond.fieldLink R_T 15 R_T "cells" "[J") ∈ tW := tw_in 26 (by decide +kernel) (by decide +kernel)
theorem tw_27 : (Cond.fieldLink R_T 19 R_T "factor" "[J") ∈ tW := tw_in 27 (by decide +kernel) (by decide +kernel)
theorem tw_28 : (Cond.fieldLink R_T 22 R_T "product" "[J") ∈ tW := tw_in 28 (by decide +kernel) (by decide +kernel)
theorem tw_29 : (Cond.fieldLink R_T 25 R_T "coefficients" "[J") ∈ tW := tw_in 29 (by decide +kernel) (by decide +kernel)
theorem tw_30 : (Cond.lays R_T R_T "rows" "I") ∈ tW := tw_in 30 (by decide +kernel) (by decide +kernel)
theorem tw_32 : (Cond.laysFinal R_T R_T "cells" "[J") ∈ tW := tw_in 32 (by decide +kernel) (by decide +kernel)
theorem tw_34 : (Cond.laysFinal R_T R_T "factor" "[J") ∈ tW := tw_in 34 (by decide +kernel) (by decide +kernel)
theorem tw_36 : (Cond.laysFinal R_T R_T "product" "[J") ∈ tW := tw_in 36 (by decide +kernel) (by decide +kernel)
theorem tw_38 : (Cond.laysFinal R_T R_T "coefficients" "[J") ∈ tW := tw_in 38 (by decide +kernel) (by decide +kernel)
theorem tw_41 : (Cond.arrayClass FieldType.long) ∈ tW := tw_in 41 (by decide +kernel) (by decide +kernel)
theorem tw_42 : (Cond.fieldLink R_K 7 R_K "size" "I") ∈ tW := tw_in 42 (by decide +kernel) (by decide +kernel)
theorem tw_43 : (Cond.fieldLink R_K 13 R_K "hasKept" "Z") ∈ tW := tw_in 43 (by decide +kernel) (by decide +kernel)
theorem tw_44 : (Cond.fieldLink R_K 17 R_K "form" "[J") ∈ tW := tw_in 44 (by decide +kernel) (by decide +kernel)
theorem tw_45 : (Cond.fieldLink R_K 21 R_K "kept" "[J") ∈ tW := tw_in 45 (by decide +kernel) (by decide +kernel)
theorem tw_46 : (Cond.fieldLink R_K 27 R_K "table" "LConicKinds$Table;") ∈ tW := tw_in 46 (by decide +kernel) (by decide +kernel)
theorem tw_47 : (Cond.fieldLink R_K 31 R_K "work" "[J") ∈ tW := tw_in 47 (by decide +kernel) (by decide +kernel)
theorem tw_48 : (Cond.fieldLink R_K 34 R_K "first" "[J") ∈ tW := tw_in 48 (by decide +kernel) (by decide +kernel)
theorem tw_49 : (Cond.fieldLink R_K 37 R_K "second" "[J") ∈ tW := tw_in 49 (by decide +kernel) (by decide +kernel)
theorem tw_50 : (Cond.lays R_K R_K "size" "I") ∈ tW := tw_in 50 (by decide +kernel) (by decide +kernel)
theorem tw_52 : (Cond.lays R_K R_K "hasKept" "Z") ∈ tW := tw_in 52 (by decide +kernel) (by decide +kernel)
theorem tw_54 : (Cond.laysFinal R_K R_K "form" "[J") ∈ tW := tw_in 54 (by decide +kernel) (by decide +kernel)
theorem tw_56 : (Cond.laysFinal R_K R_K "kept" "[J") ∈ tW := tw_in 56 (by decide +kernel) (by decide +kernel)
theorem tw_58 : (Cond.laysFinal R_K R_K "table" "LConicKinds$Table;") ∈ tW := tw_in 58 (by decide +kernel) (by decide +kernel)
theorem tw_60 : (Cond.laysFinal R_K R_K "work" "[J") ∈ tW := tw_in 60 (by decide +kernel) (by decide +kernel)
theorem tw_62 : (Cond.laysFinal R_K R_K "first" "[J") ∈ tW := tw_in 62 (by decide +kernel) (by decide +kernel)
theorem tw_64 : (Cond.laysFinal R_K R_K "second" "[J") ∈ tW := tw_in 64 (by decide +kernel) (by decide +kernel)
theorem tw_67 : (Cond.methodLink R_L 19 y_K_dimension) ∈ tW := tw_in 67 (by decide +kernel) (by decide +kernel)
theorem tw_68 : (Cond.instanceMethod y_K_dimension) ∈ tW := tw_in 68 (by decide +kernel) (by decide +kernel)
theorem tw_69 : (Cond.selects R_K y_K_dimension y_K_dimension) ∈ tW := tw_in 69 (by decide +kernel) (by decide +kernel)
theorem tw_70 : (Cond.code y_K_dimension prog_1_method_2_code 3 (some .int)) ∈ tW := tw_in 70 (by decide +kernel) (by decide +kernel)
theorem tw_71 : (Cond.methodLink R_K 40 y_A_fill) ∈ tW := tw_in 71 (by decide +kernel) (by decide +kernel)
theorem tw_72 : (Cond.static y_A_fill) ∈ tW := tw_in 72 (by decide +kernel) (by decide +kernel)
theorem tw_73 : (Cond.code y_A_fill prog_12_method_101_code 5 none) ∈ tW := tw_in 73 (by decide +kernel) (by decide +kernel)
theorem tw_74 : (Cond.methodLink R_L 24 y_K_put) ∈ tW := tw_in 74 (by decide +kernel) (by decide +kernel)
theorem tw_75 : (Cond.instanceMethod y_K_put) ∈ tW := tw_in 75 (by decide +kernel) (by decide +kernel)
theorem tw_76 : (Cond.selects R_K y_K_put y_K_put) ∈ tW := tw_in 76 (by decide +kernel) (by decide +kernel)
theorem tw_77 : (Cond.code y_K_put prog_1_method_3_code 6 (some .long)) ∈ tW := tw_in 77 (by decide +kernel) (by decide +kernel)
theorem tw_78 : (Cond.methodLink R_K 46 y_K_isNoPlace) ∈ tW := tw_in 78 (by decide +kernel) (by decide +kernel)
theorem tw_80 : (Cond.instanceMethod y_K_isNoPlace) ∈ tW := tw_in 80 (by decide +kernel) (by decide +kernel)
theorem tw_81 : (Cond.code y_K_isNoPlace prog_1_method_21_code 2 (some .boolean)) ∈ tW := tw_in 81 (by decide +kernel) (by decide +kernel)
theorem tw_82 : (Cond.methodLink R_K 50 y_K_isBeyond) ∈ tW := tw_in 82 (by decide +kernel) (by decide +kernel)
theorem tw_83 : (Cond.static y_K_isBeyond) ∈ tW := tw_in 83 (by decide +kernel) (by decide +kernel)
theorem tw_84 : (Cond.code y_K_isBeyond prog_1_method_23_code 3 (some .boolean)) ∈ tW := tw_in 84 (by decide +kernel) (by decide +kernel)
theorem tw_85 : (Cond.constantLong R_K 54 (lI (-1000000000000000000))) ∈ tW := tw_in 85 (by decide +kernel) (by decide +kernel)
theorem tw_86 : (Cond.methodLink R_K 56 y_K_place) ∈ tW := tw_in 86 (by decide +kernel) (by decide +kernel)
theorem tw_87 : (Cond.static y_K_place) ∈ tW := tw_in 87 (by decide +kernel) (by decide +kernel)
theorem tw_88 : (Cond.code y_K_place prog_1_method_20_code 2 (some .int)) ∈ tW := tw_in 88 (by decide +kernel) (by decide +kernel)
theorem tw_89 : (Cond.methodLink R_L 29 y_K_kind) ∈ tW := tw_in 89 (by decide +kernel) (by decide +kernel)
theorem tw_90 : (Cond.instanceMethod y_K_kind) ∈ tW := tw_in 90 (by decide +kernel) (by decide +kernel)
theorem tw_91 : (Cond.selects R_K y_K_kind y_K_kind) ∈ tW := tw_in 91 (by decide +kernel) (by decide +kernel)
theorem tw_92 : (Cond.code y_K_kind prog_1_method_4_code 1 (some .int)) ∈ tW := tw_in 92 (by decide +kernel) (by decide +kernel)
theorem tw_93 : (Cond.methodLink R_K 60 y_K_kindOf) ∈ tW := tw_in 93 (by decide +kernel) (by decide +kernel)
theorem tw_95 : (Cond.instanceMethod y_K_kindOf) ∈ tW := tw_in 95 (by decide +kernel) (by decide +kernel)
theorem tw_96 : (Cond.code y_K_kindOf prog_1_method_34_code 9 (some .int)) ∈ tW := tw_in 96 (by decide +kernel) (by decide +kernel)
theorem tw_97 : (Cond.methodLink R_K 64 y_T_load) ∈ tW := tw_in 97 (by decide +kernel) (by decide +kernel)
theorem tw_98 : (Cond.instanceMethod y_T_load) ∈ tW := tw_in 98 (by decide +kernel) (by decide +kernel)
theorem tw_99 : (Cond.selects R_T y_T_load y_T_load) ∈ tW := tw_in 99 (by decide +kernel) (by decide +kernel)
theorem tw_100 : (Cond.code y_T_load prog_2_method_2_code 6 none) ∈ tW := tw_in 100 (by decide +kernel) (by decide +kernel)
theorem tw_102 : (Cond.methodLink R_T 32 y_T_expand) ∈ tW := tw_in 102 (by decide +kernel) (by decide +kernel)
theorem tw_104 : (Cond.instanceMethod y_T_expand) ∈ tW := tw_in 104 (by decide +kernel) (by decide +kernel)
theorem tw_105 : (Cond.code y_T_expand prog_2_method_3_code 3 none) ∈ tW := tw_in 105 (by decide +kernel) (by decide +kernel)
theorem tw_106 : (Cond.methodLink R_T 35 y_A_fill) ∈ tW := tw_in 106 (by decide +kernel) (by decide +kernel)
theorem tw_107 : (Cond.methodLink R_T 41 arraycopyName) ∈ tW := tw_in 107 (by decide +kernel) (by decide +kernel)
theorem tw_108 : (Cond.static arraycopyName) ∈ tW := tw_in 108 (by decide +kernel) (by decide +kernel)
theorem tw_109 : (Cond.native arraycopyName) ∈ tW := tw_in 109 (by decide +kernel) (by decide +kernel)
theorem tw_110 : (Cond.methodLink R_T 47 y_T_multiply) ∈ tW := tw_in 110 (by decide +kernel) (by decide +kernel)
theorem tw_112 : (Cond.instanceMethod y_T_multiply) ∈ tW := tw_in 112 (by decide +kernel) (by decide +kernel)
theorem tw_113 : (Cond.code y_T_multiply prog_2_method_4_code 6 none) ∈ tW := tw_in 113 (by decide +kernel) (by decide +kernel)
theorem tw_114 : (Cond.methodLink R_T 50 y_T_diagonal) ∈ tW := tw_in 114 (by decide +kernel) (by decide +kernel)
theorem tw_116 : (Cond.instanceMethod y_T_diagonal) ∈ tW := tw_in 116 (by decide +kernel) (by decide +kernel)
theorem tw_117 : (Cond.code y_T_diagonal prog_2_method_5_code 4 (some .long)) ∈ tW := tw_in 117 (by decide +kernel) (by decide +kernel)
theorem tw_118 : (Cond.methodLink R_K 68 y_T_countAbove) ∈ tW := tw_in 118 (by decide +kernel) (by decide +kernel)
theorem tw_119 : (Cond.instanceMethod y_T_countAbove) ∈ tW := tw_in 119 (by decide +kernel) (by decide +kernel)
theorem tw_120 : (Cond.selects R_T y_T_countAbove y_T_countAbove) ∈ tW := tw_in 120 (by decide +kernel) (by decide +kernel)
theorem tw_121 : (Cond.code y_T_countAbove prog_2_method_11_code 7 (some .int)) ∈ tW := tw_in 121 (by decide +kernel) (by decide +kernel)
theorem tw_122 : (Cond.methodLink R_K 72 y_T_countBelow) ∈ tW := tw_in 122 (by decide +kernel) (by decide +kernel)
theorem tw_123 : (Cond.instanceMethod y_T_countBelow) ∈ tW := tw_in 123 (by decide +kernel) (by decide +kernel)
theorem tw_124 : (Cond.selects R_T y_T_countBelow y_T_countBelow) ∈ tW := tw_in 124 (by decide +kernel) (by decide +kernel)
theorem tw_125 : (Cond.code y_T_countBelow prog_2_method_12_code 1 (some .int)) ∈ tW := tw_in 125 (by decide +kernel) (by decide +kernel)
theorem tw_126 : (Cond.methodLink R_T 54 y_T_rank) ∈ tW := tw_in 126 (by decide +kernel) (by decide +kernel)
theorem tw_127 : (Cond.instanceMethod y_T_rank) ∈ tW := tw_in 127 (by decide +kernel) (by decide +kernel)
theorem tw_128 : (Cond.selects R_T y_T_rank y_T_rank) ∈ tW := tw_in 128 (by decide +kernel) (by decide +kernel)
theorem tw_129 : (Cond.code y_T_rank prog_2_method_10_code 2 (some .int)) ∈ tW := tw_in 129 (by decide +kernel) (by decide +kernel)
theorem tw_130 : (Cond.methodLink R_T 58 y_T_countAbove) ∈ tW := tw_in 130 (by decide +kernel) (by decide +kernel)
theorem tw_131 : (Cond.methodLink R_K 168 y_K_codeOf) ∈ tW := tw_in 131 (by decide +kernel) (by decide +kernel)
theorem tw_132 : (Cond.static y_K_codeOf) ∈ tW := tw_in 132 (by decide +kernel) (by decide +kernel)
theorem tw_133 : (Cond.code y_K_codeOf prog_1_method_35_code 4 (some .int)) ∈ tW := tw_in 133 (by decide +kernel) (by decide +kernel)
theorem tw_134 : (Cond.methodLink R_K 172 y_K_kindInPlane) ∈ tW := tw_in 134 (by decide +kernel) (by decide +kernel)
theorem tw_135 : (Cond.static y_K_kindInPlane) ∈ tW := tw_in 135 (by decide +kernel) (by decide +kernel)
theorem tw_136 : (Cond.code y_K_kindInPlane prog_1_method_36_code 1 (some .int)) ∈ tW := tw_in 136 (by decide +kernel) (by decide +kernel)
theorem tw_137 : (Cond.methodLink R_K 175 y_K_kindInSpace) ∈ tW := tw_in 137 (by decide +kernel) (by decide +kernel)
theorem tw_138 : (Cond.static y_K_kindInSpace) ∈ tW := tw_in 138 (by decide +kernel) (by decide +kernel)
theorem tw_139 : (Cond.code y_K_kindInSpace prog_1_method_37_code 1 (some .int)) ∈ tW := tw_in 139 (by decide +kernel) (by decide +kernel)
theorem tw_140 : (Cond.methodLink R_L 34 y_K_signs) ∈ tW := tw_in 140 (by decide +kernel) (by decide +kernel)
theorem tw_141 : (Cond.instanceMethod y_K_signs) ∈ tW := tw_in 141 (by decide +kernel) (by decide +kernel)
theorem tw_142 : (Cond.selects R_K y_K_signs y_K_signs) ∈ tW := tw_in 142 (by decide +kernel) (by decide +kernel)
theorem tw_143 : (Cond.code y_K_signs prog_1_method_5_code 2 (some .int)) ∈ tW := tw_in 143 (by decide +kernel) (by decide +kernel)
theorem tw_144 : (Cond.methodLink R_L 38 y_K_determinant) ∈ tW := tw_in 144 (by decide +kernel) (by decide +kernel)
theorem tw_145 : (Cond.instanceMethod y_K_determinant) ∈ tW := tw_in 145 (by decide +kernel) (by decide +kernel)
theorem tw_146 : (Cond.selects R_K y_K_determinant y_K_determinant) ∈ tW := tw_in 146 (by decide +kernel) (by decide +kernel)
theorem tw_147 : (Cond.code y_K_determinant prog_1_method_6_code 2 (some .long)) ∈ tW := tw_in 147 (by decide +kernel) (by decide +kernel)
theorem tw_148 : (Cond.methodLink R_K 75 y_T_sumOfValues) ∈ tW := tw_in 148 (by decide +kernel) (by decide +kernel)
theorem tw_149 : (Cond.instanceMethod y_T_sumOfValues) ∈ tW := tw_in 149 (by decide +kernel) (by decide +kernel)
theorem tw_150 : (Cond.selects R_T y_T_sumOfValues y_T_sumOfValues) ∈ tW := tw_in 150 (by decide +kernel) (by decide +kernel)
theorem tw_151 : (Cond.code y_T_sumOfValues prog_2_method_8_code 1 (some .long)) ∈ tW := tw_in 151 (by decide +kernel) (by decide +kernel)
theorem tw_152 : (Cond.methodLink R_K 79 y_T_sumOfPairs) ∈ tW := tw_in 152 (by decide +kernel) (by decide +kernel)
theorem tw_153 : (Cond.instanceMethod y_T_sumOfPairs) ∈ tW := tw_in 153 (by decide +kernel) (by decide +kernel)
theorem tw_154 : (Cond.selects R_T y_T_sumOfPairs y_T_sumOfPairs) ∈ tW := tw_in 154 (by decide +kernel) (by decide +kernel)
theorem tw_155 : (Cond.code y_T_sumOfPairs prog_2_method_9_code 1 (some .long)) ∈ tW := tw_in 155 (by decide +kernel) (by decide +kernel)
theorem tw_156 : (Cond.methodLink R_K 82 y_T_productOfValues) ∈ tW := tw_in 156 (by decide +kernel) (by decide +kernel)
theorem tw_157 : (Cond.instanceMethod y_T_productOfValues) ∈ tW := tw_in 157 (by decide +kernel) (by decide +kernel)
theorem tw_158 : (Cond.selects R_T y_T_productOfValues y_T_productOfValues) ∈ tW := tw_in 158 (by decide +kernel) (by decide +kernel)
theorem tw_159 : (Cond.code y_T_productOfValues prog_2_method_7_code 1 (some .long)) ∈ tW := tw_in 159 (by decide +kernel) (by decide +kernel)
theorem tw_160 : (Cond.methodLink R_L 42 y_K_middles) ∈ tW := tw_in 160 (by decide +kernel) (by decide +kernel)
theorem tw_161 : (Cond.instanceMethod y_K_middles) ∈ tW := tw_in 161 (by decide +kernel) (by decide +kernel)
theorem tw_162 : (Cond.selects R_K y_K_middles y_K_middles) ∈ tW := tw_in 162 (by decide +kernel) (by decide +kernel)
theorem tw_163 : (Cond.code y_K_middles prog_1_method_7_code 2 (some .int)) ∈ tW := tw_in 163 (by decide +kernel) (by decide +kernel)
theorem tw_164 : (Cond.methodLink R_K 85 y_T_rank) ∈ tW := tw_in 164 (by decide +kernel) (by decide +kernel)
theorem tw_165 : (Cond.methodLink R_L 46 y_K_middle) ∈ tW := tw_in 165 (by decide +kernel) (by decide +kernel)
theorem tw_166 : (Cond.instanceMethod y_K_middle) ∈ tW := tw_in 166 (by decide +kernel) (by decide +kernel)
theorem tw_167 : (Cond.selects R_K y_K_middle y_K_middle) ∈ tW := tw_in 167 (by decide +kernel) (by decide +kernel)
theorem tw_168 : (Cond.code y_K_middle prog_1_method_8_code 6 (some .long)) ∈ tW := tw_in 168 (by decide +kernel) (by decide +kernel)
theorem tw_169 : (Cond.methodLink R_K 88 y_K_isNoPart) ∈ tW := tw_in 169 (by decide +kernel) (by decide +kernel)
theorem tw_170 : (Cond.static y_K_isNoPart) ∈ tW := tw_in 170 (by decide +kernel) (by decide +kernel)
theorem tw_171 : (Cond.code y_K_isNoPart prog_1_method_22_code 1 (some .boolean)) ∈ tW := tw_in 171 (by decide +kernel) (by decide +kernel)
theorem tw_172 : (Cond.methodLink R_K 91 y_T_adjugate) ∈ tW := tw_in 172 (by decide +kernel) (by decide +kernel)
theorem tw_173 : (Cond.instanceMethod y_T_adjugate) ∈ tW := tw_in 173 (by decide +kernel) (by decide +kernel)
theorem tw_174 : (Cond.selects R_T y_T_adjugate y_T_adjugate) ∈ tW := tw_in 174 (by decide +kernel) (by decide +kernel)
theorem tw_175 : (Cond.code y_T_adjugate prog_2_method_6_code 3 (some .long)) ∈ tW := tw_in 175 (by decide +kernel) (by decide +kernel)
theorem tw_176 : (Cond.methodLink R_K 95 y_K_partOfFraction) ∈ tW := tw_in 176 (by decide +kernel) (by decide +kernel)
theorem tw_177 : (Cond.static y_K_partOfFraction) ∈ tW := tw_in 177 (by decide +kernel) (by decide +kernel)
theorem tw_178 : (Cond.code y_K_partOfFraction prog_1_method_32_code 9 (some .long)) ∈ tW := tw_in 178 (by decide +kernel) (by decide +kernel)
theorem tw_179 : (Cond.methodLink R_K 164 y_K_greatestDivisor) ∈ tW := tw_in 179 (by decide +kernel) (by decide +kernel)
theorem tw_180 : (Cond.static y_K_greatestDivisor) ∈ tW := tw_in 180 (by decide +kernel) (by decide +kernel)
theorem tw_181 : (Cond.code y_K_greatestDivisor prog_1_method_31_code 11 (some .long)) ∈ tW := tw_in 181 (by decide +kernel) (by decide +kernel)
theorem tw_182 : (Cond.methodLink R_K 158 Lib.MathLoose.abs_long.x) ∈ tW := tw_in 182 (by decide +kernel) (by decide +kernel)
theorem tw_183 : (Cond.static Lib.MathLoose.abs_long.x) ∈ tW := tw_in 183 (by decide +kernel) (by decide +kernel)
theorem tw_184 : (Cond.code Lib.MathLoose.abs_long.x Lib.MathLoose.abs_long.code 2 (some .long)) ∈ tW := tw_in 184 (by decide +kernel) (by decide +kernel)
theorem tw_185 : (Cond.methodLink R_L 60 y_K_below) ∈ tW := tw_in 185 (by decide +kernel) (by decide +kernel)
theorem tw_186 : (Cond.instanceMethod y_K_below) ∈ tW := tw_in 186 (by decide +kernel) (by decide +kernel)
theorem tw_187 : (Cond.selects R_K y_K_below y_K_below) ∈ tW := tw_in 187 (by decide +kernel) (by decide +kernel)
theorem tw_188 : (Cond.code y_K_below prog_1_method_10_code 5 (some .int)) ∈ tW := tw_in 188 (by decide +kernel) (by decide +kernel)
theorem tw_189 : (Cond.methodLink R_L 65 y_K_unlike) ∈ tW := tw_in 189 (by decide +kernel) (by decide +kernel)
theorem tw_190 : (Cond.instanceMethod y_K_unlike) ∈ tW := tw_in 190 (by decide +kernel) (by decide +kernel)
theorem tw_191 : (Cond.selects R_K y_K_unlike y_K_unlike) ∈ tW := tw_in 191 (by decide +kernel) (by decide +kernel)
theorem tw_192 : (Cond.code y_K_unlike prog_1_method_11_code 1 (some .int)) ∈ tW := tw_in 192 (by decide +kernel) (by decide +kernel)
theorem tw_193 : (Cond.methodLink R_K 106 y_T_countUnlike) ∈ tW := tw_in 193 (by decide +kernel) (by decide +kernel)
theorem tw_194 : (Cond.instanceMethod y_T_countUnlike) ∈ tW := tw_in 194 (by decide +kernel) (by decide +kernel)
theorem tw_195 : (Cond.selects R_T y_T_countUnlike y_T_countUnlike) ∈ tW := tw_in 195 (by decide +kernel) (by decide +kernel)
theorem tw_196 : (Cond.code y_T_countUnlike prog_2_method_13_code 5 (some .int)) ∈ tW := tw_in 196 (by decide +kernel) (by decide +kernel)
theorem tw_197 : (Cond.methodLink R_T 61 y_T_sumOfValues) ∈ tW := tw_in 197 (by decide +kernel) (by decide +kernel)
theorem tw_198 : (Cond.methodLink R_T 64 y_T_sumOfPairs) ∈ tW := tw_in 198 (by decide +kernel) (by decide +kernel)
theorem tw_199 : (Cond.constantLong R_T 67 (lI 4)) ∈ tW := tw_in 199 (by decide +kernel) (by decide +kernel)
theorem tw_200 : (Cond.constantLong R_T 69 (lI 3)) ∈ tW := tw_in 200 (by decide +kernel) (by decide +kernel)
theorem tw_201 : (Cond.methodLink R_T 71 y_T_productOfValues) ∈ tW := tw_in 201 (by decide +kernel) (by decide +kernel)
theorem tw_202 : (Cond.methodLink R_T 74 y_T_discriminant) ∈ tW := tw_in 202 (by decide +kernel) (by decide +kernel)
theorem tw_203 : (Cond.static y_T_discriminant) ∈ tW := tw_in 203 (by decide +kernel) (by decide +kernel)
theorem tw_204 : (Cond.code y_T_discriminant prog_2_method_14_code 6 (some .long)) ∈ tW := tw_in 204 (by decide +kernel) (by decide +kernel)
theorem tw_205 : (Cond.constantLong R_T 78 (lI 18)) ∈ tW := tw_in 205 (by decide +kernel) (by decide +kernel)
theorem tw_206 : (Cond.constantLong R_T 80 (lI 27)) ∈ tW := tw_in 206 (by decide +kernel) (by decide +kernel)
theorem tw_207 : (Cond.methodLink R_L 69 y_K_at) ∈ tW := tw_in 207 (by decide +kernel) (by decide +kernel)
theorem tw_208 : (Cond.instanceMethod y_K_at) ∈ tW := tw_in 208 (by decide +kernel) (by decide +kernel)
theorem tw_209 : (Cond.selects R_K y_K_at y_K_at) ∈ tW := tw_in 209 (by decide +kernel) (by decide +kernel)
theorem tw_210 : (Cond.code y_K_at prog_1_method_12_code 5 (some .int)) ∈ tW := tw_in 210 (by decide +kernel) (by decide +kernel)
theorem tw_211 : (Cond.methodLink R_K 109 y_K_takePoint) ∈ tW := tw_in 211 (by decide +kernel) (by decide +kernel)
theorem tw_213 : (Cond.instanceMethod y_K_takePoint) ∈ tW := tw_in 213 (by decide +kernel) (by decide +kernel)
theorem tw_214 : (Cond.code y_K_takePoint prog_1_method_28_code 5 (some .boolean)) ∈ tW := tw_in 214 (by decide +kernel) (by decide +kernel)
theorem tw_215 : (Cond.methodLink R_K 129 y_K_setRow) ∈ tW := tw_in 215 (by decide +kernel) (by decide +kernel)
theorem tw_217 : (Cond.instanceMethod y_K_setRow) ∈ tW := tw_in 217 (by decide +kernel) (by decide +kernel)
theorem tw_218 : (Cond.code y_K_setRow prog_1_method_25_code 10 none) ∈ tW := tw_in 218 (by decide +kernel) (by decide +kernel)
theorem tw_219 : (Cond.methodLink R_K 133 y_K_isRowBeyond) ∈ tW := tw_in 219 (by decide +kernel) (by decide +kernel)
theorem tw_220 : (Cond.static y_K_isRowBeyond) ∈ tW := tw_in 220 (by decide +kernel) (by decide +kernel)
theorem tw_221 : (Cond.code y_K_isRowBeyond prog_1_method_26_code 3 (some .boolean)) ∈ tW := tw_in 221 (by decide +kernel) (by decide +kernel)
theorem tw_222 : (Cond.methodLink R_K 113 y_K_formOf) ∈ tW := tw_in 222 (by decide +kernel) (by decide +kernel)
theorem tw_224 : (Cond.instanceMethod y_K_formOf) ∈ tW := tw_in 224 (by decide +kernel) (by decide +kernel)
theorem tw_225 : (Cond.code y_K_formOf prog_1_method_30_code 6 (some .long)) ∈ tW := tw_in 225 (by decide +kernel) (by decide +kernel)
theorem tw_226 : (Cond.methodLink R_K 121 y_K_rowTimes) ∈ tW := tw_in 226 (by decide +kernel) (by decide +kernel)
theorem tw_228 : (Cond.instanceMethod y_K_rowTimes) ∈ tW := tw_in 228 (by decide +kernel) (by decide +kernel)
theorem tw_229 : (Cond.code y_K_rowTimes prog_1_method_29_code 6 (some .long)) ∈ tW := tw_in 229 (by decide +kernel) (by decide +kernel)
theorem tw_230 : (Cond.methodLink R_K 117 y_K_signCode) ∈ tW := tw_in 230 (by decide +kernel) (by decide +kernel)
theorem tw_231 : (Cond.static y_K_signCode) ∈ tW := tw_in 231 (by decide +kernel) (by decide +kernel)
theorem tw_232 : (Cond.code y_K_signCode prog_1_method_24_code 2 (some .int)) ∈ tW := tw_in 232 (by decide +kernel) (by decide +kernel)
theorem tw_233 : (Cond.methodLink R_L 74 y_K_polar) ∈ tW := tw_in 233 (by decide +kernel) (by decide +kernel)
theorem tw_234 : (Cond.instanceMethod y_K_polar) ∈ tW := tw_in 234 (by decide +kernel) (by decide +kernel)
theorem tw_235 : (Cond.selects R_K y_K_polar y_K_polar) ∈ tW := tw_in 235 (by decide +kernel) (by decide +kernel)
theorem tw_236 : (Cond.code y_K_polar prog_1_method_13_code 7 (some .long)) ∈ tW := tw_in 236 (by decide +kernel) (by decide +kernel)
theorem tw_237 : (Cond.methodLink R_K 125 y_K_clearDivisor) ∈ tW := tw_in 237 (by decide +kernel) (by decide +kernel)
theorem tw_238 : (Cond.static y_K_clearDivisor) ∈ tW := tw_in 238 (by decide +kernel) (by decide +kernel)
theorem tw_239 : (Cond.code y_K_clearDivisor prog_1_method_33_code 9 (some .boolean)) ∈ tW := tw_in 239 (by decide +kernel) (by decide +kernel)
theorem tw_240 : (Cond.methodLink R_L 79 y_K_touches) ∈ tW := tw_in 240 (by decide +kernel) (by decide +kernel)
theorem tw_241 : (Cond.instanceMethod y_K_touches) ∈ tW := tw_in 241 (by decide +kernel) (by decide +kernel)
theorem tw_242 : (Cond.selects R_K y_K_touches y_K_touches) ∈ tW := tw_in 242 (by decide +kernel) (by decide +kernel)
theorem tw_243 : (Cond.code y_K_touches prog_1_method_14_code 9 (some .int)) ∈ tW := tw_in 243 (by decide +kernel) (by decide +kernel)
theorem tw_244 : (Cond.methodLink R_K 136 y_K_isAllZero) ∈ tW := tw_in 244 (by decide +kernel) (by decide +kernel)
theorem tw_245 : (Cond.static y_K_isAllZero) ∈ tW := tw_in 245 (by decide +kernel) (by decide +kernel)
theorem tw_246 : (Cond.code y_K_isAllZero prog_1_method_27_code 4 (some .boolean)) ∈ tW := tw_in 246 (by decide +kernel) (by decide +kernel)
theorem tw_247 : (Cond.methodLink R_L 83 y_K_section) ∈ tW := tw_in 247 (by decide +kernel) (by decide +kernel)
theorem tw_248 : (Cond.instanceMethod y_K_section) ∈ tW := tw_in 248 (by decide +kernel) (by decide +kernel)
theorem tw_249 : (Cond.selects R_K y_K_section y_K_section) ∈ tW := tw_in 249 (by decide +kernel) (by decide +kernel)
theorem tw_250 : (Cond.code y_K_section prog_1_method_15_code 5 (some .int)) ∈ tW := tw_in 250 (by decide +kernel) (by decide +kernel)
theorem tw_251 : (Cond.methodLink R_K 140 y_K_cutInto) ∈ tW := tw_in 251 (by decide +kernel) (by decide +kernel)
theorem tw_253 : (Cond.instanceMethod y_K_cutInto) ∈ tW := tw_in 253 (by decide +kernel) (by decide +kernel)
theorem tw_254 : (Cond.code y_K_cutInto prog_1_method_38_code 5 none) ∈ tW := tw_in 254 (by decide +kernel) (by decide +kernel)
theorem tw_255 : (Cond.methodLink R_K 178 y_K_cutCell) ∈ tW := tw_in 255 (by decide +kernel) (by decide +kernel)
theorem tw_257 : (Cond.instanceMethod y_K_cutCell) ∈ tW := tw_in 257 (by decide +kernel) (by decide +kernel)
theorem tw_258 : (Cond.code y_K_cutCell prog_1_method_39_code 6 (some .long)) ∈ tW := tw_in 258 (by decide +kernel) (by decide +kernel)
theorem tw_259 : (Cond.methodLink R_L 87 y_K_meets) ∈ tW := tw_in 259 (by decide +kernel) (by decide +kernel)
theorem tw_260 : (Cond.instanceMethod y_K_meets) ∈ tW := tw_in 260 (by decide +kernel) (by decide +kernel)
theorem tw_261 : (Cond.selects R_K y_K_meets y_K_meets) ∈ tW := tw_in 261 (by decide +kernel) (by decide +kernel)
theorem tw_262 : (Cond.code y_K_meets prog_1_method_16_code 13 (some .int)) ∈ tW := tw_in 262 (by decide +kernel) (by decide +kernel)
theorem tw_263 : (Cond.methodLink R_L 92 y_K_line) ∈ tW := tw_in 263 (by decide +kernel) (by decide +kernel)
theorem tw_264 : (Cond.instanceMethod y_K_line) ∈ tW := tw_in 264 (by decide +kernel) (by decide +kernel)
theorem tw_265 : (Cond.selects R_K y_K_line y_K_line) ∈ tW := tw_in 265 (by decide +kernel) (by decide +kernel)
theorem tw_266 : (Cond.code y_K_line prog_1_method_17_code 5 (some .long)) ∈ tW := tw_in 266 (by decide +kernel) (by decide +kernel)
theorem tw_267 : (Cond.methodLink R_K 144 y_K_takeLines) ∈ tW := tw_in 267 (by decide +kernel) (by decide +kernel)
theorem tw_269 : (Cond.instanceMethod y_K_takeLines) ∈ tW := tw_in 269 (by decide +kernel) (by decide +kernel)
theorem tw_270 : (Cond.code y_K_takeLines prog_1_method_40_code 2 (some .int)) ∈ tW := tw_in 270 (by decide +kernel) (by decide +kernel)
theorem tw_271 : (Cond.constantLong R_K 182 (lI 2)) ∈ tW := tw_in 271 (by decide +kernel) (by decide +kernel)
theorem tw_272 : (Cond.methodLink R_K 184 y_K_takeFormRow) ∈ tW := tw_in 272 (by decide +kernel) (by decide +kernel)
theorem tw_274 : (Cond.instanceMethod y_K_takeFormRow) ∈ tW := tw_in 274 (by decide +kernel) (by decide +kernel)
theorem tw_275 : (Cond.code y_K_takeFormRow prog_1_method_41_code 2 none) ∈ tW := tw_in 275 (by decide +kernel) (by decide +kernel)
theorem tw_276 : (Cond.methodLink R_K 188 y_K_joinLines) ∈ tW := tw_in 276 (by decide +kernel) (by decide +kernel)
theorem tw_278 : (Cond.instanceMethod y_K_joinLines) ∈ tW := tw_in 278 (by decide +kernel) (by decide +kernel)
theorem tw_279 : (Cond.code y_K_joinLines prog_1_method_42_code 5 (some .boolean)) ∈ tW := tw_in 279 (by decide +kernel) (by decide +kernel)
theorem tw_280 : (Cond.methodLink R_K 195 y_K_rootOf) ∈ tW := tw_in 280 (by decide +kernel) (by decide +kernel)
theorem tw_281 : (Cond.static y_K_rootOf) ∈ tW := tw_in 281 (by decide +kernel) (by decide +kernel)
theorem tw_282 : (Cond.code y_K_rootOf prog_1_method_43_code 3 (some .int)) ∈ tW := tw_in 282 (by decide +kernel) (by decide +kernel)
theorem tw_283 : (Cond.methodLink R_K 198 y_K_addCrosswise) ∈ tW := tw_in 283 (by decide +kernel) (by decide +kernel)
theorem tw_285 : (Cond.instanceMethod y_K_addCrosswise) ∈ tW := tw_in 285 (by decide +kernel) (by decide +kernel)
theorem tw_286 : (Cond.code y_K_addCrosswise prog_1_method_44_code 7 none) ∈ tW := tw_in 286 (by decide +kernel) (by decide +kernel)
theorem tw_287 : (Cond.methodLink R_K 192 y_K_readLines) ∈ tW := tw_in 287 (by decide +kernel) (by decide +kernel)
theorem tw_289 : (Cond.instanceMethod y_K_readLines) ∈ tW := tw_in 289 (by decide +kernel) (by decide +kernel)
theorem tw_290 : (Cond.code y_K_readLines prog_1_method_45_code 3 (some .boolean)) ∈ tW := tw_in 290 (by decide +kernel) (by decide +kernel)
theorem tw_291 : (Cond.methodLink R_K 202 y_K_readLinesAt) ∈ tW := tw_in 291 (by decide +kernel) (by decide +kernel)
theorem tw_293 : (Cond.instanceMethod y_K_readLinesAt) ∈ tW := tw_in 293 (by decide +kernel) (by decide +kernel)
theorem tw_294 : (Cond.code y_K_readLinesAt prog_1_method_46_code 4 (some .boolean)) ∈ tW := tw_in 294 (by decide +kernel) (by decide +kernel)
theorem tw_295 : (Cond.methodLink R_K 148 y_K_isLess) ∈ tW := tw_in 295 (by decide +kernel) (by decide +kernel)
theorem tw_296 : (Cond.static y_K_isLess) ∈ tW := tw_in 296 (by decide +kernel) (by decide +kernel)
theorem tw_297 : (Cond.code y_K_isLess prog_1_method_47_code 3 (some .boolean)) ∈ tW := tw_in 297 (by decide +kernel) (by decide +kernel)
theorem tw_298 : (Cond.methodLink R_L 96 y_K_keep) ∈ tW := tw_in 298 (by decide +kernel) (by decide +kernel)
theorem tw_299 : (Cond.instanceMethod y_K_keep) ∈ tW := tw_in 299 (by decide +kernel) (by decide +kernel)
theorem tw_300 : (Cond.selects R_K y_K_keep y_K_keep) ∈ tW := tw_in 300 (by decide +kernel) (by decide +kernel)
theorem tw_301 : (Cond.code y_K_keep prog_1_method_18_code 1 (some .int)) ∈ tW := tw_in 301 (by decide +kernel) (by decide +kernel)
theorem tw_302 : (Cond.methodLink R_K 152 arraycopyName) ∈ tW := tw_in 302 (by decide +kernel) (by decide +kernel)
theorem tw_303 : (Cond.methodLink R_L 100 y_K_alike) ∈ tW := tw_in 303 (by decide +kernel) (by decide +kernel)
theorem tw_304 : (Cond.instanceMethod y_K_alike) ∈ tW := tw_in 304 (by decide +kernel) (by decide +kernel)
theorem tw_305 : (Cond.selects R_K y_K_alike y_K_alike) ∈ tW := tw_in 305 (by decide +kernel) (by decide +kernel)
theorem tw_306 : (Cond.code y_K_alike prog_1_method_19_code 3 (some .int)) ∈ tW := tw_in 306 (by decide +kernel) (by decide +kernel)
theorem tw_307 : (Cond.methodLink R_L 51 y_L_height) ∈ tW := tw_in 307 (by decide +kernel) (by decide +kernel)
theorem tw_308 : (Cond.static y_L_height) ∈ tW := tw_in 308 (by decide +kernel) (by decide +kernel)
theorem tw_311 : (Cond.methodLink R_L 7 y_K_height) ∈ tW := tw_in 311 (by decide +kernel) (by decide +kernel)
theorem tw_312 : (Cond.instanceMethod y_K_height) ∈ tW := tw_in 312 (by decide +kernel) (by decide +kernel)
theorem tw_313 : (Cond.selects R_K y_K_height y_K_height) ∈ tW := tw_in 313 (by decide +kernel) (by decide +kernel)
theorem tw_314 : (Cond.code y_K_height prog_1_method_9_code 4 (some .long)) ∈ tW := tw_in 314 (by decide +kernel) (by decide +kernel)
theorem tw_380 : (Cond.arrayClass FieldType.byte) ∈ tW := tw_in 380 (by decide +kernel) (by decide +kernel)
theorem tw_381 : (Cond.classLink R_L 16 R_M) ∈ tW := tw_in 381 (by decide +kernel) (by decide +kernel)
theorem tw_382 : (Cond.instantiable R_M 21) ∈ tW := tw_in 382 (by decide +kernel) (by decide +kernel)
theorem tw_383 : (Cond.methodLink R_L 18 y_M_init) ∈ tW := tw_in 383 (by decide +kernel) (by decide +kernel)
theorem tw_384 : (Cond.instanceMethod y_M_init) ∈ tW := tw_in 384 (by decide +kernel) (by decide +kernel)
theorem tw_385 : (Cond.code y_M_init prog_4_method_1_code 1 none) ∈ tW := tw_in 385 (by decide +kernel) (by decide +kernel)
theorem tw_386 : (Cond.methodLink R_M 1 objectInit) ∈ tW := tw_in 386 (by decide +kernel) (by decide +kernel)
theorem tw_387 : (Cond.fieldLink R_M 45 R_M "code" "I") ∈ tW := tw_in 387 (by decide +kernel) (by decide +kernel)
theorem tw_388 : (Cond.fieldLink R_M 7 R_M "d" "I") ∈ tW := tw_in 388 (by decide +kernel) (by decide +kernel)
theorem tw_389 : (Cond.fieldLink R_M 13 R_M "m" "[I") ∈ tW := tw_in 389 (by decide +kernel) (by decide +kernel)
theorem tw_390 : (Cond.fieldLink R_M 48 R_M "isKept" "Z") ∈ tW := tw_in 390 (by decide +kernel) (by decide +kernel)
theorem tw_391 : (Cond.fieldLink R_M 17 R_M "keptForm" "[I") ∈ tW := tw_in 391 (by decide +kernel) (by decide +kernel)
theorem tw_392 : (Cond.fieldLink R_M 20 R_M "table" "[J") ∈ tW := tw_in 392 (by decide +kernel) (by decide +kernel)
theorem tw_393 : (Cond.fieldLink R_M 58 R_M "rows" "I") ∈ tW := tw_in 393 (by decide +kernel) (by decide +kernel)
theorem tw_394 : (Cond.fieldLink R_M 24 R_M "work" "[J") ∈ tW := tw_in 394 (by decide +kernel) (by decide +kernel)
theorem tw_395 : (Cond.fieldLink R_M 76 R_M "above" "I") ∈ tW := tw_in 395 (by decide +kernel) (by decide +kernel)
theorem tw_396 : (Cond.fieldLink R_M 79 R_M "beneath" "I") ∈ tW := tw_in 396 (by decide +kernel) (by decide +kernel)
theorem tw_397 : (Cond.fieldLink R_M 27 R_M "planes" "[I") ∈ tW := tw_in 397 (by decide +kernel) (by decide +kernel)
theorem tw_398 : (Cond.fieldLink R_M 30 R_M "spaces" "[I") ∈ tW := tw_in 398 (by decide +kernel) (by decide +kernel)
theorem tw_399 : (Cond.fieldLink R_M 88 R_M "a0" "I") ∈ tW := tw_in 399 (by decide +kernel) (by decide +kernel)
theorem tw_400 : (Cond.fieldLink R_M 85 R_M "a1" "I") ∈ tW := tw_in 400 (by decide +kernel) (by decide +kernel)
theorem tw_401 : (Cond.fieldLink R_M 94 R_M "b0" "I") ∈ tW := tw_in 401 (by decide +kernel) (by decide +kernel)
theorem tw_402 : (Cond.fieldLink R_M 91 R_M "b1" "I") ∈ tW := tw_in 402 (by decide +kernel) (by decide +kernel)
theorem tw_403 : (Cond.fieldLink R_M 33 R_M "point" "[J") ∈ tW := tw_in 403 (by decide +kernel) (by decide +kernel)
theorem tw_404 : (Cond.fieldLink R_M 36 R_M "told" "[J") ∈ tW := tw_in 404 (by decide +kernel) (by decide +kernel)
theorem tw_405 : (Cond.fieldLink R_M 39 R_M "base" "[J") ∈ tW := tw_in 405 (by decide +kernel) (by decide +kernel)
theorem tw_406 : (Cond.fieldLink R_M 42 R_M "lines" "[J") ∈ tW := tw_in 406 (by decide +kernel) (by decide +kernel)
theorem tw_407 : (Cond.fieldLink R_M 156 R_M "lineMany" "I") ∈ tW := tw_in 407 (by decide +kernel) (by decide +kernel)
theorem tw_408 : (Cond.lays R_M R_M "code" "I") ∈ tW := tw_in 408 (by decide +kernel) (by decide +kernel)
theorem tw_410 : (Cond.lays R_M R_M "d" "I") ∈ tW := tw_in 410 (by decide +kernel) (by decide +kernel)
theorem tw_412 : (Cond.laysFinal R_M R_M "m" "[I") ∈ tW := tw_in 412 (by decide +kernel) (by decide +kernel)
theorem tw_414 : (Cond.lays R_M R_M "isKept" "Z") ∈ tW := tw_in 414 (by decide +kernel) (by decide +kernel)
theorem tw_416 : (Cond.laysFinal R_M R_M "keptForm" "[I") ∈ tW := tw_in 416 (by decide +kernel) (by decide +kernel)
theorem tw_418 : (Cond.laysFinal R_M R_M "table" "[J") ∈ tW := tw_in 418 (by decide +kernel) (by decide +kernel)
theorem tw_420 : (Cond.lays R_M R_M "rows" "I") ∈ tW := tw_in 420 (by decide +kernel) (by decide +kernel)
theorem tw_422 : (Cond.laysFinal R_M R_M "work" "[J") ∈ tW := tw_in 422 (by decide +kernel) (by decide +kernel)
theorem tw_424 : (Cond.lays R_M R_M "above" "I") ∈ tW := tw_in 424 (by decide +kernel) (by decide +kernel)
theorem tw_426 : (Cond.lays R_M R_M "beneath" "I") ∈ tW := tw_in 426 (by decide +kernel) (by decide +kernel)
theorem tw_428 : (Cond.laysFinal R_M R_M "planes" "[I") ∈ tW := tw_in 428 (by decide +kernel) (by decide +kernel)
theorem tw_430 : (Cond.laysFinal R_M R_M "spaces" "[I") ∈ tW := tw_in 430 (by decide +kernel) (by decide +kernel)
theorem tw_432 : (Cond.lays R_M R_M "a0" "I") ∈ tW := tw_in 432 (by decide +kernel) (by decide +kernel)
theorem tw_434 : (Cond.lays R_M R_M "a1" "I") ∈ tW := tw_in 434 (by decide +kernel) (by decide +kernel)
theorem tw_436 : (Cond.lays R_M R_M "b0" "I") ∈ tW := tw_in 436 (by decide +kernel) (by decide +kernel)
theorem tw_438 : (Cond.lays R_M R_M "b1" "I") ∈ tW := tw_in 438 (by decide +kernel) (by decide +kernel)
theorem tw_440 : (Cond.laysFinal R_M R_M "point" "[J") ∈ tW := tw_in 440 (by decide +kernel) (by decide +kernel)
theorem tw_442 : (Cond.laysFinal R_M R_M "told" "[J") ∈ tW := tw_in 442 (by decide +kernel) (by decide +kernel)
theorem tw_444 : (Cond.laysFinal R_M R_M "base" "[J") ∈ tW := tw_in 444 (by decide +kernel) (by decide +kernel)
theorem tw_446 : (Cond.laysFinal R_M R_M "lines" "[J") ∈ tW := tw_in 446 (by decide +kernel) (by decide +kernel)
theorem tw_448 : (Cond.lays R_M R_M "lineMany" "I") ∈ tW := tw_in 448 (by decide +kernel) (by decide +kernel)
theorem tw_451 : (Cond.arrayClass FieldType.int) ∈ tW := tw_in 451 (by decide +kernel) (by decide +kernel)
theorem tw_452 : (Cond.methodLink R_L 57 y_M_thrown) ∈ tW := tw_in 452 (by decide +kernel) (by decide +kernel)
theorem tw_453 : (Cond.instanceMethod y_M_thrown) ∈ tW := tw_in 453 (by decide +kernel) (by decide +kernel)
theorem tw_454 : (Cond.selects R_M y_M_thrown y_M_thrown) ∈ tW := tw_in 454 (by decide +kernel) (by decide +kernel)
theorem tw_455 : (Cond.code y_M_thrown prog_4_method_2_code 1 (some .int)) ∈ tW := tw_in 455 (by decide +kernel) (by decide +kernel)
theorem tw_456 : (Cond.methodLink R_L 23 y_M_dimension) ∈ tW := tw_in 456 (by decide +kernel) (by decide +kernel)
theorem tw_457 : (Cond.instanceMethod y_M_dimension) ∈ tW := tw_in 457 (by decide +kernel) (by decide +kernel)
theorem tw_458 : (Cond.selects R_M y_M_dimension y_M_dimension) ∈ tW := tw_in 458 (by decide +kernel) (by decide +kernel)
theorem tw_459 : (Cond.code y_M_dimension prog_4_method_4_code 4 (some .int)) ∈ tW := tw_in 459 (by decide +kernel) (by decide +kernel)
theorem tw_460 : (Cond.methodLink R_L 28 y_M_put) ∈ tW := tw_in 460 (by decide +kernel) (by decide +kernel)
theorem tw_461 : (Cond.instanceMethod y_M_put) ∈ tW := tw_in 461 (by decide +kernel) (by decide +kernel)
theorem tw_462 : (Cond.selects R_M y_M_put y_M_put) ∈ tW := tw_in 462 (by decide +kernel) (by decide +kernel)
theorem tw_463 : (Cond.code y_M_put prog_4_method_5_code 5 (some .long)) ∈ tW := tw_in 463 (by decide +kernel) (by decide +kernel)
theorem tw_464 : (Cond.methodLink R_M 52 y_M_in) ∈ tW := tw_in 464 (by decide +kernel) (by decide +kernel)
theorem tw_465 : (Cond.static y_M_in) ∈ tW := tw_in 465 (by decide +kernel) (by decide +kernel)
theorem tw_466 : (Cond.code y_M_in prog_4_method_3_code 4 (some .boolean)) ∈ tW := tw_in 466 (by decide +kernel) (by decide +kernel)
theorem tw_467 : (Cond.constantLong R_M 56 (lI (-1000000000000000000))) ∈ tW := tw_in 467 (by decide +kernel) (by decide +kernel)
theorem tw_468 : (Cond.methodLink R_L 33 y_M_kind) ∈ tW := tw_in 468 (by decide +kernel) (by decide +kernel)
theorem tw_469 : (Cond.instanceMethod y_M_kind) ∈ tW := tw_in 469 (by decide +kernel) (by decide +kernel)
theorem tw_470 : (Cond.selects R_M y_M_kind y_M_kind) ∈ tW := tw_in 470 (by decide +kernel) (by decide +kernel)
theorem tw_471 : (Cond.code y_M_kind prog_4_method_16_code 1 (some .int)) ∈ tW := tw_in 471 (by decide +kernel) (by decide +kernel)
theorem tw_472 : (Cond.methodLink R_M 111 y_M_ownKind) ∈ tW := tw_in 472 (by decide +kernel) (by decide +kernel)
theorem tw_474 : (Cond.instanceMethod y_M_ownKind) ∈ tW := tw_in 474 (by decide +kernel) (by decide +kernel)
theorem tw_475 : (Cond.code y_M_ownKind prog_4_method_15_code 1 (some .int)) ∈ tW := tw_in 475 (by decide +kernel) (by decide +kernel)
theorem tw_476 : (Cond.methodLink R_M 104 y_M_findAll) ∈ tW := tw_in 476 (by decide +kernel) (by decide +kernel)
theorem tw_478 : (Cond.instanceMethod y_M_findAll) ∈ tW := tw_in 478 (by decide +kernel) (by decide +kernel)
theorem tw_479 : (Cond.code y_M_findAll prog_4_method_14_code 1 none) ∈ tW := tw_in 479 (by decide +kernel) (by decide +kernel)
theorem tw_480 : (Cond.methodLink R_M 97 y_M_take) ∈ tW := tw_in 480 (by decide +kernel) (by decide +kernel)
theorem tw_482 : (Cond.instanceMethod y_M_take) ∈ tW := tw_in 482 (by decide +kernel) (by decide +kernel)
theorem tw_483 : (Cond.code y_M_take prog_4_method_6_code 5 none) ∈ tW := tw_in 483 (by decide +kernel) (by decide +kernel)
theorem tw_484 : (Cond.methodLink R_M 101 y_M_findSigns) ∈ tW := tw_in 484 (by decide +kernel) (by decide +kernel)
theorem tw_486 : (Cond.instanceMethod y_M_findSigns) ∈ tW := tw_in 486 (by decide +kernel) (by decide +kernel)
theorem tw_487 : (Cond.code y_M_findSigns prog_4_method_12_code 10 none) ∈ tW := tw_in 487 (by decide +kernel) (by decide +kernel)
theorem tw_488 : (Cond.methodLink R_M 82 y_M_sums) ∈ tW := tw_in 488 (by decide +kernel) (by decide +kernel)
theorem tw_490 : (Cond.instanceMethod y_M_sums) ∈ tW := tw_in 490 (by decide +kernel) (by decide +kernel)
theorem tw_491 : (Cond.code y_M_sums prog_4_method_11_code 5 (some .long)) ∈ tW := tw_in 491 (by decide +kernel) (by decide +kernel)
theorem tw_492 : (Cond.methodLink R_M 69 y_M_bitsOf) ∈ tW := tw_in 492 (by decide +kernel) (by decide +kernel)
theorem tw_493 : (Cond.static y_M_bitsOf) ∈ tW := tw_in 493 (by decide +kernel) (by decide +kernel)
theorem tw_494 : (Cond.code y_M_bitsOf prog_4_method_10_code 3 (some .int)) ∈ tW := tw_in 494 (by decide +kernel) (by decide +kernel)
theorem tw_495 : (Cond.methodLink R_M 73 y_M_minor) ∈ tW := tw_in 495 (by decide +kernel) (by decide +kernel)
theorem tw_497 : (Cond.instanceMethod y_M_minor) ∈ tW := tw_in 497 (by decide +kernel) (by decide +kernel)
theorem tw_498 : (Cond.code y_M_minor prog_4_method_7_code 6 (some .long)) ∈ tW := tw_in 498 (by decide +kernel) (by decide +kernel)
theorem tw_499 : (Cond.methodLink R_M 61 y_M_determinantOf) ∈ tW := tw_in 499 (by decide +kernel) (by decide +kernel)
theorem tw_501 : (Cond.instanceMethod y_M_determinantOf) ∈ tW := tw_in 501 (by decide +kernel) (by decide +kernel)
theorem tw_502 : (Cond.code y_M_determinantOf prog_4_method_8_code 10 (some .long)) ∈ tW := tw_in 502 (by decide +kernel) (by decide +kernel)
theorem tw_503 : (Cond.methodLink R_M 65 y_M_swapRows) ∈ tW := tw_in 503 (by decide +kernel) (by decide +kernel)
theorem tw_505 : (Cond.instanceMethod y_M_swapRows) ∈ tW := tw_in 505 (by decide +kernel) (by decide +kernel)
theorem tw_506 : (Cond.code y_M_swapRows prog_4_method_9_code 6 none) ∈ tW := tw_in 506 (by decide +kernel) (by decide +kernel)
theorem tw_507 : (Cond.methodLink R_M 107 y_M_kindOf) ∈ tW := tw_in 507 (by decide +kernel) (by decide +kernel)
theorem tw_509 : (Cond.instanceMethod y_M_kindOf) ∈ tW := tw_in 509 (by decide +kernel) (by decide +kernel)
theorem tw_510 : (Cond.code y_M_kindOf prog_4_method_13_code 7 (some .int)) ∈ tW := tw_in 510 (by decide +kernel) (by decide +kernel)
theorem tw_511 : (Cond.methodLink R_L 37 y_M_signs) ∈ tW := tw_in 511 (by decide +kernel) (by decide +kernel)
theorem tw_512 : (Cond.instanceMethod y_M_signs) ∈ tW := tw_in 512 (by decide +kernel) (by decide +kernel)
theorem tw_513 : (Cond.selects R_M y_M_signs y_M_signs) ∈ tW := tw_in 513 (by decide +kernel) (by decide +kernel)
theorem tw_514 : (Cond.code y_M_signs prog_4_method_17_code 2 (some .int)) ∈ tW := tw_in 514 (by decide +kernel) (by decide +kernel)
theorem tw_515 : (Cond.methodLink R_L 41 y_M_determinant) ∈ tW := tw_in 515 (by decide +kernel) (by decide +kernel)
theorem tw_516 : (Cond.instanceMethod y_M_determinant) ∈ tW := tw_in 516 (by decide +kernel) (by decide +kernel)
theorem tw_517 : (Cond.selects R_M y_M_determinant y_M_determinant) ∈ tW := tw_in 517 (by decide +kernel) (by decide +kernel)
theorem tw_518 : (Cond.code y_M_determinant prog_4_method_18_code 2 (some .long)) ∈ tW := tw_in 518 (by decide +kernel) (by decide +kernel)
theorem tw_519 : (Cond.methodLink R_L 45 y_M_middles) ∈ tW := tw_in 519 (by decide +kernel) (by decide +kernel)
theorem tw_520 : (Cond.instanceMethod y_M_middles) ∈ tW := tw_in 520 (by decide +kernel) (by decide +kernel)
theorem tw_521 : (Cond.selects R_M y_M_middles y_M_middles) ∈ tW := tw_in 521 (by decide +kernel) (by decide +kernel)
theorem tw_522 : (Cond.code y_M_middles prog_4_method_20_code 2 (some .int)) ∈ tW := tw_in 522 (by decide +kernel) (by decide +kernel)
theorem tw_523 : (Cond.methodLink R_M 115 y_M_rank) ∈ tW := tw_in 523 (by decide +kernel) (by decide +kernel)
theorem tw_525 : (Cond.instanceMethod y_M_rank) ∈ tW := tw_in 525 (by decide +kernel) (by decide +kernel)
theorem tw_526 : (Cond.code y_M_rank prog_4_method_19_code 10 (some .int)) ∈ tW := tw_in 526 (by decide +kernel) (by decide +kernel)
theorem tw_527 : (Cond.methodLink R_L 50 y_M_middle) ∈ tW := tw_in 527 (by decide +kernel) (by decide +kernel)
theorem tw_528 : (Cond.instanceMethod y_M_middle) ∈ tW := tw_in 528 (by decide +kernel) (by decide +kernel)
theorem tw_529 : (Cond.selects R_M y_M_middle y_M_middle) ∈ tW := tw_in 529 (by decide +kernel) (by decide +kernel)
theorem tw_530 : (Cond.code y_M_middle prog_4_method_23_code 6 (some .long)) ∈ tW := tw_in 530 (by decide +kernel) (by decide +kernel)
theorem tw_531 : (Cond.methodLink R_M 122 y_M_part) ∈ tW := tw_in 531 (by decide +kernel) (by decide +kernel)
theorem tw_532 : (Cond.static y_M_part) ∈ tW := tw_in 532 (by decide +kernel) (by decide +kernel)
theorem tw_533 : (Cond.code y_M_part prog_4_method_22_code 7 (some .long)) ∈ tW := tw_in 533 (by decide +kernel) (by decide +kernel)
theorem tw_534 : (Cond.methodLink R_M 118 y_M_divisor) ∈ tW := tw_in 534 (by decide +kernel) (by decide +kernel)
theorem tw_535 : (Cond.static y_M_divisor) ∈ tW := tw_in 535 (by decide +kernel) (by decide +kernel)
theorem tw_536 : (Cond.code y_M_divisor prog_4_method_21_code 10 (some .long)) ∈ tW := tw_in 536 (by decide +kernel) (by decide +kernel)
theorem tw_537 : (Cond.methodLink R_L 56 y_M_height) ∈ tW := tw_in 537 (by decide +kernel) (by decide +kernel)
theorem tw_538 : (Cond.instanceMethod y_M_height) ∈ tW := tw_in 538 (by decide +kernel) (by decide +kernel)
theorem tw_539 : (Cond.selects R_M y_M_height y_M_height) ∈ tW := tw_in 539 (by decide +kernel) (by decide +kernel)
theorem tw_540 : (Cond.code y_M_height prog_4_method_24_code 4 (some .long)) ∈ tW := tw_in 540 (by decide +kernel) (by decide +kernel)
theorem tw_541 : (Cond.methodLink R_L 64 y_M_below) ∈ tW := tw_in 541 (by decide +kernel) (by decide +kernel)
theorem tw_542 : (Cond.instanceMethod y_M_below) ∈ tW := tw_in 542 (by decide +kernel) (by decide +kernel)
theorem tw_543 : (Cond.selects R_M y_M_below y_M_below) ∈ tW := tw_in 543 (by decide +kernel) (by decide +kernel)
theorem tw_544 : (Cond.code y_M_below prog_4_method_25_code 5 (some .int)) ∈ tW := tw_in 544 (by decide +kernel) (by decide +kernel)
theorem tw_545 : (Cond.methodLink R_L 68 y_M_unlike) ∈ tW := tw_in 545 (by decide +kernel) (by decide +kernel)
theorem tw_546 : (Cond.instanceMethod y_M_unlike) ∈ tW := tw_in 546 (by decide +kernel) (by decide +kernel)
theorem tw_547 : (Cond.selects R_M y_M_unlike y_M_unlike) ∈ tW := tw_in 547 (by decide +kernel) (by decide +kernel)
theorem tw_548 : (Cond.code y_M_unlike prog_4_method_26_code 10 (some .int)) ∈ tW := tw_in 548 (by decide +kernel) (by decide +kernel)
theorem tw_549 : (Cond.constantLong R_M 126 (lI 18)) ∈ tW := tw_in 549 (by decide +kernel) (by decide +kernel)
theorem tw_550 : (Cond.constantLong R_M 128 (lI 4)) ∈ tW := tw_in 550 (by decide +kernel) (by decide +kernel)
theorem tw_551 : (Cond.constantLong R_M 130 (lI 27)) ∈ tW := tw_in 551 (by decide +kernel) (by decide +kernel)
theorem tw_552 : (Cond.methodLink R_L 73 y_M_at) ∈ tW := tw_in 552 (by decide +kernel) (by decide +kernel)
theorem tw_553 : (Cond.instanceMethod y_M_at) ∈ tW := tw_in 553 (by decide +kernel) (by decide +kernel)
theorem tw_554 : (Cond.selects R_M y_M_at y_M_at) ∈ tW := tw_in 554 (by decide +kernel) (by decide +kernel)
theorem tw_555 : (Cond.code y_M_at prog_4_method_29_code 8 (some .int)) ∈ tW := tw_in 555 (by decide +kernel) (by decide +kernel)
theorem tw_556 : (Cond.methodLink R_M 132 y_M_isPoint) ∈ tW := tw_in 556 (by decide +kernel) (by decide +kernel)
theorem tw_558 : (Cond.instanceMethod y_M_isPoint) ∈ tW := tw_in 558 (by decide +kernel) (by decide +kernel)
theorem tw_559 : (Cond.code y_M_isPoint prog_4_method_27_code 6 (some .boolean)) ∈ tW := tw_in 559 (by decide +kernel) (by decide +kernel)
theorem tw_560 : (Cond.methodLink R_M 136 y_M_polarAt) ∈ tW := tw_in 560 (by decide +kernel) (by decide +kernel)
theorem tw_562 : (Cond.instanceMethod y_M_polarAt) ∈ tW := tw_in 562 (by decide +kernel) (by decide +kernel)
theorem tw_563 : (Cond.code y_M_polarAt prog_4_method_28_code 5 (some .long)) ∈ tW := tw_in 563 (by decide +kernel) (by decide +kernel)
theorem tw_564 : (Cond.methodLink R_L 78 y_M_polar) ∈ tW := tw_in 564 (by decide +kernel) (by decide +kernel)
theorem tw_565 : (Cond.instanceMethod y_M_polar) ∈ tW := tw_in 565 (by decide +kernel) (by decide +kernel)
theorem tw_566 : (Cond.selects R_M y_M_polar y_M_polar) ∈ tW := tw_in 566 (by decide +kernel) (by decide +kernel)
theorem tw_567 : (Cond.code y_M_polar prog_4_method_31_code 7 (some .long)) ∈ tW := tw_in 567 (by decide +kernel) (by decide +kernel)
theorem tw_568 : (Cond.methodLink R_M 141 y_M_without) ∈ tW := tw_in 568 (by decide +kernel) (by decide +kernel)
theorem tw_570 : (Cond.instanceMethod y_M_without) ∈ tW := tw_in 570 (by decide +kernel) (by decide +kernel)
theorem tw_571 : (Cond.code y_M_without prog_4_method_30_code 8 (some .long)) ∈ tW := tw_in 571 (by decide +kernel) (by decide +kernel)
theorem tw_572 : (Cond.constantLong R_M 139 (lI (-1))) ∈ tW := tw_in 572 (by decide +kernel) (by decide +kernel)
theorem tw_573 : (Cond.methodLink R_L 82 y_M_touches) ∈ tW := tw_in 573 (by decide +kernel) (by decide +kernel)
theorem tw_574 : (Cond.instanceMethod y_M_touches) ∈ tW := tw_in 574 (by decide +kernel) (by decide +kernel)
theorem tw_575 : (Cond.selects R_M y_M_touches y_M_touches) ∈ tW := tw_in 575 (by decide +kernel) (by decide +kernel)
theorem tw_576 : (Cond.code y_M_touches prog_4_method_32_code 9 (some .int)) ∈ tW := tw_in 576 (by decide +kernel) (by decide +kernel)
theorem tw_577 : (Cond.methodLink R_L 86 y_M_section) ∈ tW := tw_in 577 (by decide +kernel) (by decide +kernel)
theorem tw_578 : (Cond.instanceMethod y_M_section) ∈ tW := tw_in 578 (by decide +kernel) (by decide +kernel)
theorem tw_579 : (Cond.selects R_M y_M_section y_M_section) ∈ tW := tw_in 579 (by decide +kernel) (by decide +kernel)
theorem tw_580 : (Cond.code y_M_section prog_4_method_35_code 5 (some .int)) ∈ tW := tw_in 580 (by decide +kernel) (by decide +kernel)
theorem tw_581 : (Cond.methodLink R_M 145 y_M_layBase) ∈ tW := tw_in 581 (by decide +kernel) (by decide +kernel)
theorem tw_583 : (Cond.instanceMethod y_M_layBase) ∈ tW := tw_in 583 (by decide +kernel) (by decide +kernel)
theorem tw_584 : (Cond.code y_M_layBase prog_4_method_34_code 9 none) ∈ tW := tw_in 584 (by decide +kernel) (by decide +kernel)
theorem tw_585 : (Cond.methodLink R_M 149 y_M_layCut) ∈ tW := tw_in 585 (by decide +kernel) (by decide +kernel)
theorem tw_587 : (Cond.instanceMethod y_M_layCut) ∈ tW := tw_in 587 (by decide +kernel) (by decide +kernel)
theorem tw_588 : (Cond.code y_M_layCut prog_4_method_36_code 4 none) ∈ tW := tw_in 588 (by decide +kernel) (by decide +kernel)
theorem tw_589 : (Cond.methodLink R_M 153 y_M_formOf) ∈ tW := tw_in 589 (by decide +kernel) (by decide +kernel)
theorem tw_591 : (Cond.instanceMethod y_M_formOf) ∈ tW := tw_in 591 (by decide +kernel) (by decide +kernel)
theorem tw_592 : (Cond.code y_M_formOf prog_4_method_33_code 7 (some .long)) ∈ tW := tw_in 592 (by decide +kernel) (by decide +kernel)
theorem tw_593 : (Cond.methodLink R_L 91 y_M_meets) ∈ tW := tw_in 593 (by decide +kernel) (by decide +kernel)
theorem tw_594 : (Cond.instanceMethod y_M_meets) ∈ tW := tw_in 594 (by decide +kernel) (by decide +kernel)
theorem tw_595 : (Cond.selects R_M y_M_meets y_M_meets) ∈ tW := tw_in 595 (by decide +kernel) (by decide +kernel)
theorem tw_596 : (Cond.code y_M_meets prog_4_method_37_code 16 (some .int)) ∈ tW := tw_in 596 (by decide +kernel) (by decide +kernel)
theorem tw_597 : (Cond.methodLink R_L 95 y_M_line) ∈ tW := tw_in 597 (by decide +kernel) (by decide +kernel)
theorem tw_598 : (Cond.instanceMethod y_M_line) ∈ tW := tw_in 598 (by decide +kernel) (by decide +kernel)
theorem tw_599 : (Cond.selects R_M y_M_line y_M_line) ∈ tW := tw_in 599 (by decide +kernel) (by decide +kernel)
theorem tw_600 : (Cond.code y_M_line prog_4_method_43_code 4 (some .long)) ∈ tW := tw_in 600 (by decide +kernel) (by decide +kernel)
theorem tw_601 : (Cond.methodLink R_M 172 y_M_findLines) ∈ tW := tw_in 601 (by decide +kernel) (by decide +kernel)
theorem tw_603 : (Cond.instanceMethod y_M_findLines) ∈ tW := tw_in 603 (by decide +kernel) (by decide +kernel)
theorem tw_604 : (Cond.code y_M_findLines prog_4_method_41_code 3 none) ∈ tW := tw_in 604 (by decide +kernel) (by decide +kernel)
theorem tw_605 : (Cond.constantLong R_M 167 (lI 2)) ∈ tW := tw_in 605 (by decide +kernel) (by decide +kernel)
theorem tw_606 : (Cond.methodLink R_M 163 y_M_setLine) ∈ tW := tw_in 606 (by decide +kernel) (by decide +kernel)
theorem tw_608 : (Cond.instanceMethod y_M_setLine) ∈ tW := tw_in 608 (by decide +kernel) (by decide +kernel)
theorem tw_609 : (Cond.code y_M_setLine prog_4_method_39_code 9 none) ∈ tW := tw_in 609 (by decide +kernel) (by decide +kernel)
theorem tw_610 : (Cond.methodLink R_M 169 y_M_findTwo) ∈ tW := tw_in 610 (by decide +kernel) (by decide +kernel)
theorem tw_612 : (Cond.instanceMethod y_M_findTwo) ∈ tW := tw_in 612 (by decide +kernel) (by decide +kernel)
theorem tw_613 : (Cond.code y_M_findTwo prog_4_method_40_code 14 none) ∈ tW := tw_in 613 (by decide +kernel) (by decide +kernel)
theorem tw_614 : (Cond.methodLink R_M 159 y_M_root) ∈ tW := tw_in 614 (by decide +kernel) (by decide +kernel)
theorem tw_615 : (Cond.static y_M_root) ∈ tW := tw_in 615 (by decide +kernel) (by decide +kernel)
theorem tw_616 : (Cond.code y_M_root prog_4_method_38_code 4 (some .long)) ∈ tW := tw_in 616 (by decide +kernel) (by decide +kernel)
theorem tw_617 : (Cond.methodLink R_M 175 y_M_isSecondFirst) ∈ tW := tw_in 617 (by decide +kernel) (by decide +kernel)
theorem tw_619 : (Cond.instanceMethod y_M_isSecondFirst) ∈ tW := tw_in 619 (by decide +kernel) (by decide +kernel)
theorem tw_620 : (Cond.code y_M_isSecondFirst prog_4_method_42_code 2 (some .boolean)) ∈ tW := tw_in 620 (by decide +kernel) (by decide +kernel)
theorem tw_621 : (Cond.methodLink R_L 99 y_M_keep) ∈ tW := tw_in 621 (by decide +kernel) (by decide +kernel)
theorem tw_622 : (Cond.instanceMethod y_M_keep) ∈ tW := tw_in 622 (by decide +kernel) (by decide +kernel)
theorem tw_623 : (Cond.selects R_M y_M_keep y_M_keep) ∈ tW := tw_in 623 (by decide +kernel) (by decide +kernel)
theorem tw_624 : (Cond.code y_M_keep prog_4_method_44_code 2 (some .int)) ∈ tW := tw_in 624 (by decide +kernel) (by decide +kernel)
theorem tw_625 : (Cond.methodLink R_L 103 y_M_alike) ∈ tW := tw_in 625 (by decide +kernel) (by decide +kernel)
theorem tw_626 : (Cond.instanceMethod y_M_alike) ∈ tW := tw_in 626 (by decide +kernel) (by decide +kernel)
theorem tw_627 : (Cond.selects R_M y_M_alike y_M_alike) ∈ tW := tw_in 627 (by decide +kernel) (by decide +kernel)
theorem tw_628 : (Cond.code y_M_alike prog_4_method_45_code 6 (some .int)) ∈ tW := tw_in 628 (by decide +kernel) (by decide +kernel)
theorem tws_0 : (Cond.selects R_K y_K_isNoPlace y_K_isNoPlace) ∈ tW := tw_sel 0 (by decide +kernel) (by decide +kernel)
theorem tws_1 : (Cond.selects R_K y_K_kindOf y_K_kindOf) ∈ tW := tw_sel 1 (by decide +kernel) (by decide +kernel)
theorem tws_2 : (Cond.selects R_T y_T_expand y_T_expand) ∈ tW := tw_sel 2 (by decide +kernel) (by decide +kernel)
theorem tws_3 : (Cond.selects R_T y_T_multiply y_T_multiply) ∈ tW := tw_sel 3 (by decide +kernel) (by decide +kernel)
theorem tws_4 : (Cond.selects R_T y_T_diagonal y_T_diagonal) ∈ tW := tw_sel 4 (by decide +kernel) (by decide +kernel)
theorem tws_5 : (Cond.selects R_K y_K_takePoint y_K_takePoint) ∈ tW := tw_sel 5 (by decide +kernel) (by decide +kernel)
theorem tws_6 : (Cond.selects R_K y_K_setRow y_K_setRow) ∈ tW := tw_sel 6 (by decide +kernel) (by decide +kernel)
theorem tws_7 : (Cond.selects R_K y_K_formOf y_K_formOf) ∈ tW := tw_sel 7 (by decide +kernel) (by decide +kernel)
theorem tws_8 : (Cond.selects R_K y_K_rowTimes y_K_rowTimes) ∈ tW := tw_sel 8 (by decide +kernel) (by decide +kernel)
theorem tws_9 : (Cond.selects R_K y_K_cutInto y_K_cutInto) ∈ tW := tw_sel 9 (by decide +kernel) (by decide +kernel)
theorem tws_10 : (Cond.selects R_K y_K_cutCell y_K_cutCell) ∈ tW := tw_sel 10 (by decide +kernel) (by decide +kernel)
theorem tws_11 : (Cond.selects R_K y_K_takeLines y_K_takeLines) ∈ tW := tw_sel 11 (by decide +kernel) (by decide +kernel)
theorem tws_12 : (Cond.selects R_K y_K_takeFormRow y_K_takeFormRow) ∈ tW := tw_sel 12 (by decide +kernel) (by decide +kernel)
theorem tws_13 : (Cond.selects R_K y_K_joinLines y_K_joinLines) ∈ tW := tw_sel 13 (by decide +kernel) (by decide +kernel)
theorem tws_14 : (Cond.selects R_K y_K_addCrosswise y_K_addCrosswise) ∈ tW := tw_sel 14 (by decide +kernel) (by decide +kernel)
theorem tws_15 : (Cond.selects R_K y_K_readLines y_K_readLines) ∈ tW := tw_sel 15 (by decide +kernel) (by decide +kernel)
theorem tws_16 : (Cond.selects R_K y_K_readLinesAt y_K_readLinesAt) ∈ tW := tw_sel 16 (by decide +kernel) (by decide +kernel)
theorem tws_17 : (Cond.selects R_M y_M_ownKind y_M_ownKind) ∈ tW := tw_sel 18 (by decide +kernel) (by decide +kernel)
theorem tws_18 : (Cond.selects R_M y_M_findAll y_M_findAll) ∈ tW := tw_sel 19 (by decide +kernel) (by decide +kernel)
theorem tws_19 : (Cond.selects R_M y_M_take y_M_take) ∈ tW := tw_sel 20 (by decide +kernel) (by decide +kernel)
theorem tws_20 : (Cond.selects R_M y_M_findSigns y_M_findSigns) ∈ tW := tw_sel 21 (by decide +kernel) (by decide +kernel)
theorem tws_21 : (Cond.selects R_M y_M_sums y_M_sums) ∈ tW := tw_sel 22 (by decide +kernel) (by decide +kernel)
theorem tws_22 : (Cond.selects R_M y_M_minor y_M_minor) ∈ tW := tw_sel 23 (by decide +kernel) (by decide +kernel)
theorem tws_23 : (Cond.selects R_M y_M_determinantOf y_M_determinantOf) ∈ tW := tw_sel 24 (by decide +kernel) (by decide +kernel)
theorem tws_24 : (Cond.selects R_M y_M_swapRows y_M_swapRows) ∈ tW := tw_sel 25 (by decide +kernel) (by decide +kernel)
theorem tws_25 : (Cond.selects R_M y_M_kindOf y_M_kindOf) ∈ tW := tw_sel 26 (by decide +kernel) (by decide +kernel)
theorem tws_26 : (Cond.selects R_M y_M_rank y_M_rank) ∈ tW := tw_sel 27 (by decide +kernel) (by decide +kernel)
theorem tws_27 : (Cond.selects R_M y_M_isPoint y_M_isPoint) ∈ tW := tw_sel 28 (by decide +kernel) (by decide +kernel)
theorem tws_28 : (Cond.selects R_M y_M_polarAt y_M_polarAt) ∈ tW := tw_sel 29 (by decide +kernel) (by decide +kernel)
theorem tws_29 : (Cond.selects R_M y_M_without y_M_without) ∈ tW := tw_sel 30 (by decide +kernel) (by decide +kernel)
theorem tws_30 : (Cond.selects R_M y_M_layBase y_M_layBase) ∈ tW := tw_sel 31 (by decide +kernel) (by decide +kernel)
theorem tws_31 : (Cond.selects R_M y_M_layCut y_M_layCut) ∈ tW := tw_sel 32 (by decide +kernel) (by decide +kernel)
theorem tws_32 : (Cond.selects R_M y_M_formOf y_M_formOf) ∈ tW := tw_sel 33 (by decide +kernel) (by decide +kernel)
theorem tws_33 : (Cond.selects R_M y_M_findLines y_M_findLines) ∈ tW := tw_sel 34 (by decide +kernel) (by decide +kernel)
theorem tws_34 : (Cond.selects R_M y_M_setLine y_M_setLine) ∈ tW := tw_sel 35 (by decide +kernel) (by decide +kernel)
theorem tws_35 : (Cond.selects R_M y_M_findTwo y_M_findTwo) ∈ tW := tw_sel 36 (by decide +kernel) (by decide +kernel)
theorem tws_36 : (Cond.selects R_M y_M_isSecondFirst y_M_isSecondFirst) ∈ tW := tw_sel 37 (by decide +kernel) (by decide +kernel)
theorem iw_T : ∀ w ∈ u_ws R_T F_T 5, w ∈ tW := by
  intro w hw
  obtain ⟨k, hk, rfl⟩ := List.mem_map.mp hw
  have hk := List.mem_range.mp hk
  match k, hk with
  | 0, _ => exact tw_30
  | 1, _ => exact tw_32
  | 2, _ => exact tw_34
  | 3, _ => exact tw_36
  | 4, _ => exact tw_38
  | n + 5, h => exact absurd h (by omega)
theorem iw_K : ∀ w ∈ u_ws R_K F_K 8, w ∈ tW := by
  intro w hw
  obtain ⟨k, hk, rfl⟩ := List.mem_map.mp hw
  have hk := List.mem_range.mp hk
  match k, hk with
  | 0, _ => exact tw_50
  | 1, _ => exact tw_52
  | 2, _ => exact tw_54
  | 3, _ => exact tw_56
  | 4, _ => exact tw_58
  | 5, _ => exact tw_60
  | 6, _ => exact tw_62
  | 7, _ => exact tw_64
  | n + 8, h => exact absurd h (by omega)
theorem iw_M : ∀ w ∈ u_ws R_M F_M 21, w ∈ tW := by
  intro w hw
  obtain ⟨k, hk, rfl⟩ := List.mem_map.mp hw
  have hk := List.mem_range.mp hk
  match k, hk with
  | 0, _ => exact tw_408
  | 1, _ => exact tw_410
  | 2, _ => exact tw_412
  | 3, _ => exact tw_414
  | 4, _ => exact tw_416
  | 5, _ => exact tw_418
  | 6, _ => exact tw_420
  | 7, _ => exact tw_422
  | 8, _ => exact tw_424
  | 9, _ => exact tw_426
  | 10, _ => exact tw_428
  | 11, _ => exact tw_430
  | 12, _ => exact tw_432
  | 13, _ => exact tw_434
  | 14, _ => exact tw_436
  | 15, _ => exact tw_438
  | 16, _ => exact tw_440
  | 17, _ => exact tw_442
  | 18, _ => exact tw_444
  | 19, _ => exact tw_446
  | 20, _ => exact tw_448
  | n + 21, h => exact absurd h (by omega)
