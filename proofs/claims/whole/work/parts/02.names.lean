/-! names: classes, methods, words -/
def R_S : String := "ValueSieve"
def R_C : String := "ValueSieve$Comparisons"
def R_N : String := "ValueSieve$Numbers"
def R_O : String := "ValueSieve$Operations"
def R_V : String := "ValueSieve$Value"
def R_M : String := "ValueSieveModel"
def R_L : String := "ValueSieveLaw"
def R_Lo : String := "java/lang/Long"
def F_V : u_T := fun k => match k with
  | 0 => ("ValueSieve$Value", "bits", "J", false)
  | 1 => ("ValueSieve$Value", "unknown", "J", false)
  | 2 => ("ValueSieve$Value", "low", "J", false)
  | 3 => ("ValueSieve$Value", "high", "J", false)
  | 4 => ("ValueSieve$Value", "least", "J", false)
  | 5 => ("ValueSieve$Value", "greatest", "J", false)
  | _ => ("ValueSieve$Value", "nothing", "Z", false)
def t_V : Nat → FieldType := fun k => match k with
  | 0 => .long
  | 1 => .long
  | 2 => .long
  | 3 => .long
  | 4 => .long
  | 5 => .long
  | _ => .boolean
theorem n_V : ∀ a, a < 7 → ∀ b, b < 7 → a ≠ b → (F_V a).2.1 ≠ (F_V b).2.1 := by decide +kernel
theorem t_V_ok : ∀ k, k < 7 → parseFieldDescriptor (F_V k).2.2.1 = some (t_V k) := by decide +kernel
def F_S : u_T := fun k => match k with
  | 0 => ("ValueSieve", "values", "[LValueSieve$Value;", true)
  | 1 => ("ValueSieve", "witnesses", "[J", true)
  | 2 => ("ValueSieve", "x", "LValueSieve$Value;", true)
  | 3 => ("ValueSieve", "y", "LValueSieve$Value;", true)
  | 4 => ("ValueSieve", "made", "LValueSieve$Value;", true)
  | _ => ("ValueSieve", "strayCount", "I", false)
def t_S : Nat → FieldType := fun k => match k with
  | 0 => .array (.object "ValueSieve$Value")
  | 1 => .array .long
  | 2 => .object "ValueSieve$Value"
  | 3 => .object "ValueSieve$Value"
  | 4 => .object "ValueSieve$Value"
  | _ => .int
theorem n_S : ∀ a, a < 6 → ∀ b, b < 6 → a ≠ b → (F_S a).2.1 ≠ (F_S b).2.1 := by decide +kernel
theorem t_S_ok : ∀ k, k < 6 → parseFieldDescriptor (F_S k).2.2.1 = some (t_S k) := by decide +kernel
def F_M : u_T := fun k => match k with
  | 0 => ("ValueSieveModel", "code", "I", false)
  | 1 => ("ValueSieveModel", "bits", "[J", true)
  | 2 => ("ValueSieveModel", "open", "[J", true)
  | 3 => ("ValueSieveModel", "low", "[J", true)
  | 4 => ("ValueSieveModel", "high", "[J", true)
  | 5 => ("ValueSieveModel", "least", "[J", true)
  | 6 => ("ValueSieveModel", "greatest", "[J", true)
  | 7 => ("ValueSieveModel", "empty", "[Z", true)
  | 8 => ("ValueSieveModel", "witness", "[J", true)
  | _ => ("ValueSieveModel", "strays", "I", false)
def t_M : Nat → FieldType := fun k => match k with
  | 0 => .int
  | 1 => .array .long
  | 2 => .array .long
  | 3 => .array .long
  | 4 => .array .long
  | 5 => .array .long
  | 6 => .array .long
  | 7 => .array .boolean
  | 8 => .array .long
  | _ => .int
theorem n_M : ∀ a, a < 10 → ∀ b, b < 10 → a ≠ b → (F_M a).2.1 ≠ (F_M b).2.1 := by decide +kernel
theorem t_M_ok : ∀ k, k < 10 → parseFieldDescriptor (F_M k).2.2.1 = some (t_M k) := by decide +kernel
abbrev classes : List vw_C := [(R_V, F_V, 7), (R_S, F_S, 6), (R_M, F_M, 10)]
abbrev b_S_init : ByteArray := prog_1_method_1_code
def y_S_init : MethodName := ⟨R_S, "<init>", "()V"⟩
abbrev b_S_any : ByteArray := prog_1_method_2_code
def y_S_any : MethodName := ⟨R_S, "any", "(IJ)V"⟩
abbrev b_S_constant : ByteArray := prog_1_method_3_code
def y_S_constant : MethodName := ⟨R_S, "constant", "(IJ)V"⟩
abbrev b_S_between : ByteArray := prog_1_method_4_code
def y_S_between : MethodName := ⟨R_S, "between", "(IZJJJ)V"⟩
abbrev b_S_pattern : ByteArray := prog_1_method_5_code
def y_S_pattern : MethodName := ⟨R_S, "pattern", "(IJJJ)V"⟩
abbrev b_S_operate : ByteArray := prog_1_method_6_code
def y_S_operate : MethodName := ⟨R_S, "operate", "(IIIII)V"⟩
abbrev b_S_cut : ByteArray := prog_1_method_7_code
def y_S_cut : MethodName := ⟨R_S, "cut", "(III)V"⟩
abbrev b_S_extend : ByteArray := prog_1_method_8_code
def y_S_extend : MethodName := ⟨R_S, "extend", "(III)V"⟩
abbrev b_S_swap : ByteArray := prog_1_method_9_code
def y_S_swap : MethodName := ⟨R_S, "swap", "(III)V"⟩
abbrev b_S_join : ByteArray := prog_1_method_10_code
def y_S_join : MethodName := ⟨R_S, "join", "(IIIZ)V"⟩
abbrev b_S_widen : ByteArray := prog_1_method_11_code
def y_S_widen : MethodName := ⟨R_S, "widen", "(III)V"⟩
abbrev b_S_branch : ByteArray := prog_1_method_12_code
def y_S_branch : MethodName := ⟨R_S, "branch", "(III)Z"⟩
abbrev b_S_decided : ByteArray := prog_1_method_13_code
def y_S_decided : MethodName := ⟨R_S, "decided", "(III)I"⟩
abbrev b_S_within : ByteArray := prog_1_method_14_code
def y_S_within : MethodName := ⟨R_S, "within", "(II)Z"⟩
abbrev b_S_has : ByteArray := prog_1_method_15_code
def y_S_has : MethodName := ⟨R_S, "has", "(IJ)Z"⟩
abbrev b_S_least : ByteArray := prog_1_method_16_code
def y_S_least : MethodName := ⟨R_S, "least", "(IZ)J"⟩
abbrev b_S_greatest : ByteArray := prog_1_method_17_code
def y_S_greatest : MethodName := ⟨R_S, "greatest", "(IZ)J"⟩
abbrev b_S_unknown : ByteArray := prog_1_method_18_code
def y_S_unknown : MethodName := ⟨R_S, "unknown", "(I)J"⟩
abbrev b_S_witness : ByteArray := prog_1_method_19_code
def y_S_witness : MethodName := ⟨R_S, "witness", "(I)J"⟩
abbrev b_S_strays : ByteArray := prog_1_method_20_code
def y_S_strays : MethodName := ⟨R_S, "strays", "()I"⟩
abbrev b_S_requirePlace : ByteArray := prog_1_method_21_code
def y_S_requirePlace : MethodName := ⟨R_S, "requirePlace", "(I)V"⟩
abbrev b_S_requireComparison : ByteArray := prog_1_method_22_code
def y_S_requireComparison : MethodName := ⟨R_S, "requireComparison", "(III)V"⟩
abbrev b_S_canBe : ByteArray := prog_1_method_23_code
def y_S_canBe : MethodName := ⟨R_S, "canBe", "(III)Z"⟩
abbrev b_S_write : ByteArray := prog_1_method_24_code
def y_S_write : MethodName := ⟨R_S, "write", "(ILValueSieve$Value;J)V"⟩
abbrev b_M_init : ByteArray := prog_7_method_1_code
def y_M_init : MethodName := ⟨R_M, "<init>", "()V"⟩
abbrev b_M_thrown : ByteArray := prog_7_method_2_code
def y_M_thrown : MethodName := ⟨R_M, "thrown", "()I"⟩
abbrev b_M_below : ByteArray := prog_7_method_3_code
def y_M_below : MethodName := ⟨R_M, "below", "(JJ)Z"⟩
abbrev b_M_lesser : ByteArray := prog_7_method_4_code
def y_M_lesser : MethodName := ⟨R_M, "lesser", "(JJ)J"⟩
abbrev b_M_larger : ByteArray := prog_7_method_5_code
def y_M_larger : MethodName := ⟨R_M, "larger", "(JJ)J"⟩
abbrev b_M_quotient : ByteArray := prog_7_method_6_code
def y_M_quotient : MethodName := ⟨R_M, "quotient", "(JJ)J"⟩
abbrev b_M_rest : ByteArray := prog_7_method_7_code
def y_M_rest : MethodName := ⟨R_M, "rest", "(JJ)J"⟩
abbrev b_M_fits : ByteArray := prog_7_method_8_code
def y_M_fits : MethodName := ⟨R_M, "fits", "(JJ)Z"⟩
abbrev b_M_isLong : ByteArray := prog_7_method_9_code
def y_M_isLong : MethodName := ⟨R_M, "isLong", "(JJ)Z"⟩
abbrev b_M_sumIsLong : ByteArray := prog_7_method_10_code
def y_M_sumIsLong : MethodName := ⟨R_M, "sumIsLong", "(JJ)Z"⟩
abbrev b_M_differenceIsLong : ByteArray := prog_7_method_11_code
def y_M_differenceIsLong : MethodName := ⟨R_M, "differenceIsLong", "(JJ)Z"⟩
abbrev b_M_nothingSaid : ByteArray := prog_7_method_12_code
def y_M_nothingSaid : MethodName := ⟨R_M, "nothingSaid", "(I)V"⟩
abbrev b_M_copy : ByteArray := prog_7_method_13_code
def y_M_copy : MethodName := ⟨R_M, "copy", "(II)V"⟩
abbrev b_M_isNumber : ByteArray := prog_7_method_14_code
def y_M_isNumber : MethodName := ⟨R_M, "isNumber", "(IJ)Z"⟩
abbrev b_M_isSingle : ByteArray := prog_7_method_15_code
def y_M_isSingle : MethodName := ⟨R_M, "isSingle", "(I)Z"⟩
abbrev b_M_upFrom : ByteArray := prog_7_method_16_code
def y_M_upFrom : MethodName := ⟨R_M, "upFrom", "(JJJ)J"⟩
abbrev b_M_downFrom : ByteArray := prog_7_method_17_code
def y_M_downFrom : MethodName := ⟨R_M, "downFrom", "(JJJ)J"⟩
abbrev b_M_end_ : ByteArray := prog_7_method_18_code
def y_M_end_ : MethodName := ⟨R_M, "end", "(IJJZZ)J"⟩
abbrev b_M_has1 : ByteArray := prog_7_method_19_code
def y_M_has1 : MethodName := ⟨R_M, "has", "(IJJZ)Z"⟩
abbrev b_M_hasAny : ByteArray := prog_7_method_20_code
def y_M_hasAny : MethodName := ⟨R_M, "hasAny", "(IJJ)Z"⟩
abbrev b_M_tighten : ByteArray := prog_7_method_21_code
def y_M_tighten : MethodName := ⟨R_M, "tighten", "(I)V"⟩
abbrev b_M_single : ByteArray := prog_7_method_22_code
def y_M_single : MethodName := ⟨R_M, "single", "(IJ)V"⟩
abbrev b_M_noPlace : ByteArray := prog_7_method_23_code
def y_M_noPlace : MethodName := ⟨R_M, "noPlace", "(III)Z"⟩
abbrev b_M_look : ByteArray := prog_7_method_24_code
def y_M_look : MethodName := ⟨R_M, "look", "(I)V"⟩
abbrev b_M_put : ByteArray := prog_7_method_25_code
def y_M_put : MethodName := ⟨R_M, "put", "(IIJ)V"⟩
abbrev b_M_any : ByteArray := prog_7_method_26_code
def y_M_any : MethodName := ⟨R_M, "any", "(IJ)V"⟩
abbrev b_M_constant : ByteArray := prog_7_method_27_code
def y_M_constant : MethodName := ⟨R_M, "constant", "(IJ)V"⟩
abbrev b_M_between : ByteArray := prog_7_method_28_code
def y_M_between : MethodName := ⟨R_M, "between", "(IZJJJ)V"⟩
abbrev b_M_pattern : ByteArray := prog_7_method_29_code
def y_M_pattern : MethodName := ⟨R_M, "pattern", "(IJJJ)V"⟩
abbrev b_M_mask : ByteArray := prog_7_method_30_code
def y_M_mask : MethodName := ⟨R_M, "mask", "(I)J"⟩
abbrev b_M_cutRow : ByteArray := prog_7_method_31_code
def y_M_cutRow : MethodName := ⟨R_M, "cutRow", "(III)V"⟩
abbrev b_M_extendRow : ByteArray := prog_7_method_32_code
def y_M_extendRow : MethodName := ⟨R_M, "extendRow", "(III)V"⟩
abbrev b_M_swapped : ByteArray := prog_7_method_33_code
def y_M_swapped : MethodName := ⟨R_M, "swapped", "(JI)J"⟩
abbrev b_M_swapRow : ByteArray := prog_7_method_34_code
def y_M_swapRow : MethodName := ⟨R_M, "swapRow", "(III)V"⟩
abbrev b_M_cut : ByteArray := prog_7_method_35_code
def y_M_cut : MethodName := ⟨R_M, "cut", "(III)V"⟩
abbrev b_M_extend : ByteArray := prog_7_method_36_code
def y_M_extend : MethodName := ⟨R_M, "extend", "(III)V"⟩
abbrev b_M_swap : ByteArray := prog_7_method_37_code
def y_M_swap : MethodName := ⟨R_M, "swap", "(III)V"⟩
abbrev b_M_mayBe : ByteArray := prog_7_method_38_code
def y_M_mayBe : MethodName := ⟨R_M, "mayBe", "(III)Z"⟩
abbrev b_M_sumBits : ByteArray := prog_7_method_39_code
def y_M_sumBits : MethodName := ⟨R_M, "sumBits", "(Z)V"⟩
abbrev b_M_add : ByteArray := prog_7_method_40_code
def y_M_add : MethodName := ⟨R_M, "add", "()V"⟩
abbrev b_M_subtract : ByteArray := prog_7_method_41_code
def y_M_subtract : MethodName := ⟨R_M, "subtract", "()V"⟩
abbrev b_M_lowest : ByteArray := prog_7_method_42_code
def y_M_lowest : MethodName := ⟨R_M, "lowest", "(IZ)I"⟩
abbrev b_M_knowLowest : ByteArray := prog_7_method_43_code
def y_M_knowLowest : MethodName := ⟨R_M, "knowLowest", "(IJ)V"⟩
abbrev b_M_multiply : ByteArray := prog_7_method_44_code
def y_M_multiply : MethodName := ⟨R_M, "multiply", "()V"⟩
abbrev b_M_divide : ByteArray := prog_7_method_45_code
def y_M_divide : MethodName := ⟨R_M, "divide", "()V"⟩
abbrev b_M_remain : ByteArray := prog_7_method_46_code
def y_M_remain : MethodName := ⟨R_M, "remain", "()V"⟩
abbrev b_M_and_ : ByteArray := prog_7_method_47_code
def y_M_and_ : MethodName := ⟨R_M, "and", "()V"⟩
abbrev b_M_or_ : ByteArray := prog_7_method_48_code
def y_M_or_ : MethodName := ⟨R_M, "or", "()V"⟩
abbrev b_M_xor_ : ByteArray := prog_7_method_49_code
def y_M_xor_ : MethodName := ⟨R_M, "xor", "()V"⟩
abbrev b_M_left : ByteArray := prog_7_method_50_code
def y_M_left : MethodName := ⟨R_M, "left", "(I)V"⟩
abbrev b_M_right : ByteArray := prog_7_method_51_code
def y_M_right : MethodName := ⟨R_M, "right", "(I)V"⟩
abbrev b_M_signedRight : ByteArray := prog_7_method_52_code
def y_M_signedRight : MethodName := ⟨R_M, "signedRight", "(I)V"⟩
abbrev b_M_apply : ByteArray := prog_7_method_53_code
def y_M_apply : MethodName := ⟨R_M, "apply", "(II)V"⟩
abbrev b_M_reckon : ByteArray := prog_7_method_54_code
def y_M_reckon : MethodName := ⟨R_M, "reckon", "(IJJI)J"⟩
abbrev b_M_operate : ByteArray := prog_7_method_55_code
def y_M_operate : MethodName := ⟨R_M, "operate", "(IIIII)V"⟩
abbrev b_M_joinBits : ByteArray := prog_7_method_56_code
def y_M_joinBits : MethodName := ⟨R_M, "joinBits", "(II)V"⟩
abbrev b_M_join : ByteArray := prog_7_method_57_code
def y_M_join : MethodName := ⟨R_M, "join", "(IIIZ)V"⟩
abbrev b_M_widen : ByteArray := prog_7_method_58_code
def y_M_widen : MethodName := ⟨R_M, "widen", "(III)V"⟩
abbrev b_M_isSo : ByteArray := prog_7_method_59_code
def y_M_isSo : MethodName := ⟨R_M, "isSo", "(IJJ)Z"⟩
abbrev b_M_opposite : ByteArray := prog_7_method_60_code
def y_M_opposite : MethodName := ⟨R_M, "opposite", "(I)I"⟩
abbrev b_M_both : ByteArray := prog_7_method_61_code
def y_M_both : MethodName := ⟨R_M, "both", "(II)V"⟩
abbrev b_M_lose : ByteArray := prog_7_method_62_code
def y_M_lose : MethodName := ⟨R_M, "lose", "(IZJ)V"⟩
abbrev b_M_order : ByteArray := prog_7_method_63_code
def y_M_order : MethodName := ⟨R_M, "order", "(IIJJZ)V"⟩
abbrev b_M_orderLongs : ByteArray := prog_7_method_64_code
def y_M_orderLongs : MethodName := ⟨R_M, "orderLongs", "(IIJJZ)V"⟩
abbrev b_M_isOneBit : ByteArray := prog_7_method_65_code
def y_M_isOneBit : MethodName := ⟨R_M, "isOneBit", "(J)Z"⟩
abbrev b_M_force : ByteArray := prog_7_method_66_code
def y_M_force : MethodName := ⟨R_M, "force", "(IJJ)V"⟩
abbrev b_M_refine : ByteArray := prog_7_method_67_code
def y_M_refine : MethodName := ⟨R_M, "refine", "(I)V"⟩
abbrev b_M_canBe : ByteArray := prog_7_method_68_code
def y_M_canBe : MethodName := ⟨R_M, "canBe", "(III)Z"⟩
abbrev b_M_noComparison : ByteArray := prog_7_method_69_code
def y_M_noComparison : MethodName := ⟨R_M, "noComparison", "(III)Z"⟩
abbrev b_M_branch : ByteArray := prog_7_method_70_code
def y_M_branch : MethodName := ⟨R_M, "branch", "(III)Z"⟩
abbrev b_M_decided : ByteArray := prog_7_method_71_code
def y_M_decided : MethodName := ⟨R_M, "decided", "(III)I"⟩
abbrev b_M_within : ByteArray := prog_7_method_72_code
def y_M_within : MethodName := ⟨R_M, "within", "(II)Z"⟩
abbrev b_M_has0 : ByteArray := prog_7_method_73_code
def y_M_has0 : MethodName := ⟨R_M, "has", "(IJ)Z"⟩
abbrev b_M_least : ByteArray := prog_7_method_74_code
def y_M_least : MethodName := ⟨R_M, "least", "(IZ)J"⟩
abbrev b_M_greatest : ByteArray := prog_7_method_75_code
def y_M_greatest : MethodName := ⟨R_M, "greatest", "(IZ)J"⟩
abbrev b_M_unknown : ByteArray := prog_7_method_76_code
def y_M_unknown : MethodName := ⟨R_M, "unknown", "(I)J"⟩
abbrev b_M_witness : ByteArray := prog_7_method_77_code
def y_M_witness : MethodName := ⟨R_M, "witness", "(I)J"⟩
abbrev b_M_strays : ByteArray := prog_7_method_78_code
def y_M_strays : MethodName := ⟨R_M, "strays", "()I"⟩
abbrev b_C_isSo : ByteArray := prog_2_method_2_code
def y_C_isSo : MethodName := ⟨R_C, "isSo", "(IJJ)Z"⟩
abbrev b_C_opposite : ByteArray := prog_2_method_3_code
def y_C_opposite : MethodName := ⟨R_C, "opposite", "(I)I"⟩
abbrev b_C_refine : ByteArray := prog_2_method_4_code
def y_C_refine : MethodName := ⟨R_C, "refine", "(ILValueSieve$Value;LValueSieve$Value;)V"⟩
abbrev b_C_equate : ByteArray := prog_2_method_5_code
def y_C_equate : MethodName := ⟨R_C, "equate", "(LValueSieve$Value;LValueSieve$Value;)V"⟩
abbrev b_C_part : ByteArray := prog_2_method_6_code
def y_C_part : MethodName := ⟨R_C, "part", "(LValueSieve$Value;LValueSieve$Value;)V"⟩
abbrev b_C_leaveOut : ByteArray := prog_2_method_7_code
def y_C_leaveOut : MethodName := ⟨R_C, "leaveOut", "(LValueSieve$Value;J)V"⟩
abbrev b_C_orderStrictly : ByteArray := prog_2_method_8_code
def y_C_orderStrictly : MethodName := ⟨R_C, "orderStrictly", "(LValueSieve$Value;LValueSieve$Value;)V"⟩
abbrev b_C_order : ByteArray := prog_2_method_9_code
def y_C_order : MethodName := ⟨R_C, "order", "(LValueSieve$Value;LValueSieve$Value;)V"⟩
abbrev b_C_orderSignedStrictly : ByteArray := prog_2_method_10_code
def y_C_orderSignedStrictly : MethodName := ⟨R_C, "orderSignedStrictly", "(LValueSieve$Value;LValueSieve$Value;)V"⟩
abbrev b_C_orderSigned : ByteArray := prog_2_method_11_code
def y_C_orderSigned : MethodName := ⟨R_C, "orderSigned", "(LValueSieve$Value;LValueSieve$Value;)V"⟩
abbrev b_C_shareBit : ByteArray := prog_2_method_12_code
def y_C_shareBit : MethodName := ⟨R_C, "shareBit", "(LValueSieve$Value;LValueSieve$Value;)V"⟩
abbrev b_C_shareNoBit : ByteArray := prog_2_method_13_code
def y_C_shareNoBit : MethodName := ⟨R_C, "shareNoBit", "(LValueSieve$Value;LValueSieve$Value;)V"⟩
abbrev b_N_below : ByteArray := prog_3_method_2_code
def y_N_below : MethodName := ⟨R_N, "below", "(JJ)Z"⟩
abbrev b_N_less : ByteArray := prog_3_method_3_code
def y_N_less : MethodName := ⟨R_N, "less", "(JJ)J"⟩
abbrev b_N_more : ByteArray := prog_3_method_4_code
def y_N_more : MethodName := ⟨R_N, "more", "(JJ)J"⟩
abbrev b_N_quotient : ByteArray := prog_3_method_5_code
def y_N_quotient : MethodName := ⟨R_N, "quotient", "(JJ)J"⟩
abbrev b_N_sumFits : ByteArray := prog_3_method_6_code
def y_N_sumFits : MethodName := ⟨R_N, "sumFits", "(JJ)Z"⟩
abbrev b_N_differenceFits : ByteArray := prog_3_method_7_code
def y_N_differenceFits : MethodName := ⟨R_N, "differenceFits", "(JJ)Z"⟩
abbrev b_N_productFits : ByteArray := prog_3_method_8_code
def y_N_productFits : MethodName := ⟨R_N, "productFits", "(JJ)Z"⟩
abbrev b_N_unsignedProductFits : ByteArray := prog_3_method_9_code
def y_N_unsignedProductFits : MethodName := ⟨R_N, "unsignedProductFits", "(JJ)Z"⟩
abbrev b_N_lowest : ByteArray := prog_3_method_10_code
def y_N_lowest : MethodName := ⟨R_N, "lowest", "(I)J"⟩
abbrev b_N_zerosAtEnd : ByteArray := prog_3_method_11_code
def y_N_zerosAtEnd : MethodName := ⟨R_N, "zerosAtEnd", "(J)I"⟩
abbrev b_N_upToHighest : ByteArray := prog_3_method_12_code
def y_N_upToHighest : MethodName := ⟨R_N, "upToHighest", "(J)J"⟩
abbrev b_N_firstFrom : ByteArray := prog_3_method_13_code
def y_N_firstFrom : MethodName := ⟨R_N, "firstFrom", "(JJJ)J"⟩
abbrev b_N_trimmed : ByteArray := prog_3_method_14_code
def y_N_trimmed : MethodName := ⟨R_N, "trimmed", "(JI)J"⟩
abbrev b_N_extended : ByteArray := prog_3_method_15_code
def y_N_extended : MethodName := ⟨R_N, "extended", "(JI)J"⟩
abbrev b_N_turned : ByteArray := prog_3_method_16_code
def y_N_turned : MethodName := ⟨R_N, "turned", "(JI)J"⟩
abbrev b_O_reckon : ByteArray := prog_4_method_2_code
def y_O_reckon : MethodName := ⟨R_O, "reckon", "(IJJI)J"⟩
abbrev b_O_make : ByteArray := prog_4_method_3_code
def y_O_make : MethodName := ⟨R_O, "make", "(LValueSieve$Value;ILValueSieve$Value;LValueSieve$Value;I)V"⟩
abbrev b_O_addition : ByteArray := prog_4_method_4_code
def y_O_addition : MethodName := ⟨R_O, "addition", "(LValueSieve$Value;LValueSieve$Value;LValueSieve$Value;)V"⟩
abbrev b_O_subtraction : ByteArray := prog_4_method_5_code
def y_O_subtraction : MethodName := ⟨R_O, "subtraction", "(LValueSieve$Value;LValueSieve$Value;LValueSieve$Value;)V"⟩
abbrev b_O_multiplication : ByteArray := prog_4_method_6_code
def y_O_multiplication : MethodName := ⟨R_O, "multiplication", "(LValueSieve$Value;LValueSieve$Value;LValueSieve$Value;)V"⟩
abbrev b_O_knownBelow : ByteArray := prog_4_method_7_code
def y_O_knownBelow : MethodName := ⟨R_O, "knownBelow", "(LValueSieve$Value;)I"⟩
abbrev b_O_zerosBelow : ByteArray := prog_4_method_8_code
def y_O_zerosBelow : MethodName := ⟨R_O, "zerosBelow", "(LValueSieve$Value;)I"⟩
abbrev b_O_division : ByteArray := prog_4_method_9_code
def y_O_division : MethodName := ⟨R_O, "division", "(LValueSieve$Value;LValueSieve$Value;LValueSieve$Value;)V"⟩
abbrev b_O_remainder : ByteArray := prog_4_method_10_code
def y_O_remainder : MethodName := ⟨R_O, "remainder", "(LValueSieve$Value;LValueSieve$Value;LValueSieve$Value;)V"⟩
abbrev b_O_shift : ByteArray := prog_4_method_11_code
def y_O_shift : MethodName := ⟨R_O, "shift", "(LValueSieve$Value;ILValueSieve$Value;LValueSieve$Value;I)V"⟩
abbrev b_O_shiftBy : ByteArray := prog_4_method_12_code
def y_O_shiftBy : MethodName := ⟨R_O, "shiftBy", "(LValueSieve$Value;ILValueSieve$Value;I)V"⟩
abbrev b_V_init : ByteArray := prog_5_method_1_code
def y_V_init : MethodName := ⟨R_V, "<init>", "()V"⟩
abbrev b_V_take : ByteArray := prog_5_method_2_code
def y_V_take : MethodName := ⟨R_V, "take", "(LValueSieve$Value;)V"⟩
abbrev b_V_sayAll : ByteArray := prog_5_method_3_code
def y_V_sayAll : MethodName := ⟨R_V, "sayAll", "()V"⟩
abbrev b_V_sayBits : ByteArray := prog_5_method_4_code
def y_V_sayBits : MethodName := ⟨R_V, "sayBits", "(JJ)V"⟩
abbrev b_V_sayUnsigned : ByteArray := prog_5_method_5_code
def y_V_sayUnsigned : MethodName := ⟨R_V, "sayUnsigned", "(JJ)V"⟩
abbrev b_V_saySigned : ByteArray := prog_5_method_6_code
def y_V_saySigned : MethodName := ⟨R_V, "saySigned", "(JJ)V"⟩
abbrev b_V_isSingle : ByteArray := prog_5_method_7_code
def y_V_isSingle : MethodName := ⟨R_V, "isSingle", "()Z"⟩
abbrev b_V_holds : ByteArray := prog_5_method_8_code
def y_V_holds : MethodName := ⟨R_V, "holds", "(J)Z"⟩
abbrev b_V_covers : ByteArray := prog_5_method_9_code
def y_V_covers : MethodName := ⟨R_V, "covers", "(LValueSieve$Value;)Z"⟩
abbrev b_V_tighten : ByteArray := prog_5_method_10_code
def y_V_tighten : MethodName := ⟨R_V, "tighten", "()V"⟩
abbrev b_V_sayStretch : ByteArray := prog_5_method_11_code
def y_V_sayStretch : MethodName := ⟨R_V, "sayStretch", "(JJ)V"⟩
abbrev b_V_openBetween : ByteArray := prog_5_method_12_code
def y_V_openBetween : MethodName := ⟨R_V, "openBetween", "(JJ)J"⟩
abbrev b_V_firstOfHalf : ByteArray := prog_5_method_13_code
def y_V_firstOfHalf : MethodName := ⟨R_V, "firstOfHalf", "(J)J"⟩
abbrev b_V_lastOfHalf : ByteArray := prog_5_method_14_code
def y_V_lastOfHalf : MethodName := ⟨R_V, "lastOfHalf", "(J)J"⟩
abbrev b_V_trim : ByteArray := prog_5_method_15_code
def y_V_trim : MethodName := ⟨R_V, "trim", "(I)V"⟩
abbrev b_V_signExtend : ByteArray := prog_5_method_16_code
def y_V_signExtend : MethodName := ⟨R_V, "signExtend", "(I)V"⟩
abbrev b_V_turnBytes : ByteArray := prog_5_method_17_code
def y_V_turnBytes : MethodName := ⟨R_V, "turnBytes", "(I)V"⟩
abbrev b_V_spread : ByteArray := prog_5_method_18_code
def y_V_spread : MethodName := ⟨R_V, "spread", "(LValueSieve$Value;Z)V"⟩
abbrev b_L_any : ByteArray := method_3_code
def y_L_any : MethodName := ⟨R_L, "any", "(LValueSieve;IJ)I"⟩
abbrev b_L_constant : ByteArray := method_4_code
def y_L_constant : MethodName := ⟨R_L, "constant", "(LValueSieve;IJ)I"⟩
abbrev b_L_between : ByteArray := method_5_code
def y_L_between : MethodName := ⟨R_L, "between", "(LValueSieve;IZJJJ)I"⟩
abbrev b_L_pattern : ByteArray := method_6_code
def y_L_pattern : MethodName := ⟨R_L, "pattern", "(LValueSieve;IJJJ)I"⟩
abbrev b_L_operate : ByteArray := method_7_code
def y_L_operate : MethodName := ⟨R_L, "operate", "(LValueSieve;IIIII)I"⟩
abbrev b_L_cut : ByteArray := method_8_code
def y_L_cut : MethodName := ⟨R_L, "cut", "(LValueSieve;III)I"⟩
abbrev b_L_extend : ByteArray := method_9_code
def y_L_extend : MethodName := ⟨R_L, "extend", "(LValueSieve;III)I"⟩
abbrev b_L_swap : ByteArray := method_10_code
def y_L_swap : MethodName := ⟨R_L, "swap", "(LValueSieve;III)I"⟩
abbrev b_L_join : ByteArray := method_11_code
def y_L_join : MethodName := ⟨R_L, "join", "(LValueSieve;IIIZ)I"⟩
abbrev b_L_widen : ByteArray := method_12_code
def y_L_widen : MethodName := ⟨R_L, "widen", "(LValueSieve;III)I"⟩
abbrev b_L_branch : ByteArray := method_13_code
def y_L_branch : MethodName := ⟨R_L, "branch", "(LValueSieve;III[J)I"⟩
abbrev b_L_decided : ByteArray := method_14_code
def y_L_decided : MethodName := ⟨R_L, "decided", "(LValueSieve;III[J)I"⟩
abbrev b_L_within : ByteArray := method_15_code
def y_L_within : MethodName := ⟨R_L, "within", "(LValueSieve;II[J)I"⟩
abbrev b_L_has : ByteArray := method_16_code
def y_L_has : MethodName := ⟨R_L, "has", "(LValueSieve;IJ[J)I"⟩
abbrev b_L_least : ByteArray := method_17_code
def y_L_least : MethodName := ⟨R_L, "least", "(LValueSieve;IZ[J)I"⟩
abbrev b_L_greatest : ByteArray := method_18_code
def y_L_greatest : MethodName := ⟨R_L, "greatest", "(LValueSieve;IZ[J)I"⟩
abbrev b_L_unknown : ByteArray := method_19_code
def y_L_unknown : MethodName := ⟨R_L, "unknown", "(LValueSieve;I[J)I"⟩
abbrev b_L_witness : ByteArray := method_20_code
def y_L_witness : MethodName := ⟨R_L, "witness", "(LValueSieve;I[J)I"⟩
abbrev b_Lo_bitCount : ByteArray := prog_11_method_50_code
def y_Lo_bitCount : MethodName := ⟨R_Lo, "bitCount", "(J)I"⟩
theorem goodIn_self (ws : List Cond) (h : ws.all goodWord = true) : GoodIn ws ws := fun w hw => ⟨hw, good_of_word (List.all_eq_true.mp h w hw)⟩
def gG : List Cond := [.initialized R_S, .initialized R_V, .initialized R_N, .initialized "java/lang/Math", .initialized R_O, .initialized R_Lo, .initialized R_C, .instantiable R_S 6, .instanceMethod y_S_init, .code y_S_init b_S_init 2 none, .methodLink R_S 1 objectInit, .instanceMethod objectInit, .code objectInit ⟨#[0xb1]⟩ 1 none, .classLink R_S 9 R_V, .instantiable R_V 7, .instanceMethod y_V_init, .code y_V_init b_V_init 1 none, .methodLink R_V 1 objectInit, .fieldLink R_V 7 "ValueSieve$Value" "bits" "J", .fieldLink R_O 36 "ValueSieve$Value" "bits" "J", .fieldLink R_C 45 "ValueSieve$Value" "bits" "J", .fieldLink R_V 13 "ValueSieve$Value" "unknown" "J", .fieldLink R_O 40 "ValueSieve$Value" "unknown" "J", .fieldLink R_C 49 "ValueSieve$Value" "unknown" "J", .fieldLink R_S 159 "ValueSieve$Value" "unknown" "J", .fieldLink R_V 16 "ValueSieve$Value" "low" "J", .fieldLink R_O 55 "ValueSieve$Value" "low" "J", .fieldLink R_C 62 "ValueSieve$Value" "low" "J", .fieldLink R_S 146 "ValueSieve$Value" "low" "J", .fieldLink R_V 19 "ValueSieve$Value" "high" "J", .fieldLink R_O 49 "ValueSieve$Value" "high" "J", .fieldLink R_C 69 "ValueSieve$Value" "high" "J", .fieldLink R_S 153 "ValueSieve$Value" "high" "J", .fieldLink R_V 22 "ValueSieve$Value" "least" "J", .fieldLink R_O 79 "ValueSieve$Value" "least" "J", .fieldLink R_C 78 "ValueSieve$Value" "least" "J", .fieldLink R_S 150 "ValueSieve$Value" "least" "J", .fieldLink R_V 25 "ValueSieve$Value" "greatest" "J", .fieldLink R_O 85 "ValueSieve$Value" "greatest" "J", .fieldLink R_C 86 "ValueSieve$Value" "greatest" "J", .fieldLink R_S 156 "ValueSieve$Value" "greatest" "J", .fieldLink R_V 28 "ValueSieve$Value" "nothing" "Z", .fieldLink R_C 54 "ValueSieve$Value" "nothing" "Z", .fieldLink R_S 171 "ValueSieve$Value" "nothing" "Z", .lays R_V "ValueSieve$Value" "bits" "J", .lays R_V "ValueSieve$Value" "unknown" "J", .lays R_V "ValueSieve$Value" "low" "J", .lays R_V "ValueSieve$Value" "high" "J", .lays R_V "ValueSieve$Value" "least" "J", .lays R_V "ValueSieve$Value" "greatest" "J", .lays R_V "ValueSieve$Value" "nothing" "Z", .arrayClass .long, .fieldLink R_S 11 "ValueSieve" "values" "[LValueSieve$Value;", .fieldLink R_S 15 "ValueSieve" "witnesses" "[J", .fieldLink R_S 20 "ValueSieve" "x" "LValueSieve$Value;", .fieldLink R_S 24 "ValueSieve" "y" "LValueSieve$Value;", .fieldLink R_S 27 "ValueSieve" "made" "LValueSieve$Value;", .fieldLink R_S 30 "ValueSieve" "strayCount" "I", .laysFinal R_S "ValueSieve" "values" "[LValueSieve$Value;", .laysFinal R_S "ValueSieve" "witnesses" "[J", .laysFinal R_S "ValueSieve" "x" "LValueSieve$Value;", .laysFinal R_S "ValueSieve" "y" "LValueSieve$Value;", .laysFinal R_S "ValueSieve" "made" "LValueSieve$Value;", .lays R_S "ValueSieve" "strayCount" "I", .instanceMethod y_S_strays, .selects R_S y_S_strays y_S_strays, .code y_S_strays b_S_strays 1 (some .int), .instanceMethod y_S_any, .selects R_S y_S_any y_S_any, .code y_S_any b_S_any 4 none, .methodLink R_S 34 y_S_requirePlace, .static y_S_requirePlace, .code y_S_requirePlace b_S_requirePlace 1 none, .arrayClass .byte, .methodLink R_S 38 y_V_sayAll, .instanceMethod y_V_sayAll, .selects R_V y_V_sayAll y_V_sayAll, .code y_V_sayAll b_V_sayAll 1 none, .constantLong R_V 32 (-1), .methodLink R_V 34 y_V_sayBits, .instanceMethod y_V_sayBits, .selects R_V y_V_sayBits y_V_sayBits, .code y_V_sayBits b_V_sayBits 5 none, .methodLink R_V 38 y_V_sayUnsigned, .instanceMethod y_V_sayUnsigned, .selects R_V y_V_sayUnsigned y_V_sayUnsigned, .code y_V_sayUnsigned b_V_sayUnsigned 5 none, .constantLong R_V 43 (-9223372036854775808), .constantLong R_V 45 (9223372036854775807), .methodLink R_V 47 y_V_saySigned, .instanceMethod y_V_saySigned, .selects R_V y_V_saySigned y_V_saySigned, .code y_V_saySigned b_V_saySigned 5 none, .methodLink R_S 41 y_S_write, .instanceMethod y_S_write, .code y_S_write b_S_write 5 none, .methodLink R_S 77 y_V_take, .instanceMethod y_V_take, .selects R_V y_V_take y_V_take, .code y_V_take b_V_take 2 none, .methodLink R_S 58 y_V_holds, .instanceMethod y_V_holds, .selects R_V y_V_holds y_V_holds, .code y_V_holds b_V_holds 3 (some .boolean), .methodLink R_V 50 y_N_below, .static y_N_below, .code y_N_below b_N_below 4 (some .boolean), .constantLong R_N 9 (-9223372036854775808), .instanceMethod y_S_constant, .selects R_S y_S_constant y_S_constant, .code y_S_constant b_S_constant 4 none, .methodLink R_S 45 y_V_sayBits, .methodLink R_S 49 y_V_tighten, .instanceMethod y_V_tighten, .selects R_V y_V_tighten y_V_tighten, .code y_V_tighten b_V_tighten 13 none, .methodLink R_V 56 y_V_firstOfHalf, .instanceMethod y_V_firstOfHalf, .code y_V_firstOfHalf b_V_firstOfHalf 5 (some .long), .methodLink R_V 77 Lib.MathLoose.max_long.x, .static Lib.MathLoose.max_long.x, .code Lib.MathLoose.max_long.x Lib.MathLoose.max_long.code 4 (some .long), .methodLink R_V 82 y_N_more, .static y_N_more, .code y_N_more b_N_more 4 (some .long), .methodLink R_N 11 y_N_below, .methodLink R_V 85 y_N_firstFrom, .static y_N_firstFrom, .code y_N_firstFrom b_N_firstFrom 16 (some .long), .constantLong R_N 17 (-1), .methodLink R_N 27 y_N_upToHighest, .static y_N_upToHighest, .code y_N_upToHighest b_N_upToHighest 4 (some .long), .methodLink R_V 60 y_V_lastOfHalf, .instanceMethod y_V_lastOfHalf, .code y_V_lastOfHalf b_V_lastOfHalf 9 (some .long), .methodLink R_V 89 Lib.MathLoose.min_long.x, .static Lib.MathLoose.min_long.x, .code Lib.MathLoose.min_long.x Lib.MathLoose.min_long.code 4 (some .long), .methodLink R_V 92 y_N_less, .static y_N_less, .code y_N_less b_N_less 4 (some .long), .methodLink R_V 63 y_V_holds, .methodLink R_V 67 y_V_openBetween, .instanceMethod y_V_openBetween, .code y_V_openBetween b_V_openBetween 5 (some .long), .methodLink R_V 74 y_N_upToHighest, .methodLink R_V 71 y_V_sayStretch, .instanceMethod y_V_sayStretch, .code y_V_sayStretch b_V_sayStretch 5 none, .instanceMethod y_S_between, .selects R_S y_S_between y_S_between, .code y_S_between b_S_between 9 none, .methodLink R_S 52 y_V_sayUnsigned, .methodLink R_S 55 y_V_saySigned, .instanceMethod y_S_pattern, .selects R_S y_S_pattern y_S_pattern, .code y_S_pattern b_S_pattern 8 none, .instanceMethod y_S_operate, .selects R_S y_S_operate y_S_operate, .code y_S_operate b_S_operate 11 none, .methodLink R_S 81 y_N_extended, .static y_N_extended, .code y_N_extended b_N_extended 4 (some .long), .methodLink R_S 87 y_N_trimmed, .static y_N_trimmed, .code y_N_trimmed b_N_trimmed 3 (some .long), .methodLink R_N 31 y_N_lowest, .static y_N_lowest, .code y_N_lowest b_N_lowest 1 (some .long), .methodLink R_S 90 y_V_signExtend, .instanceMethod y_V_signExtend, .selects R_V y_V_signExtend y_V_signExtend, .code y_V_signExtend b_V_signExtend 12 none, .methodLink R_V 105 y_V_trim, .instanceMethod y_V_trim, .selects R_V y_V_trim y_V_trim, .code y_V_trim b_V_trim 13 none, .methodLink R_V 95 y_N_lowest, .methodLink R_V 99 y_V_sayAll, .methodLink R_V 102 y_V_tighten, .methodLink R_V 109 y_N_extended, .constantLong R_V 113 (2), .methodLink R_S 93 y_V_trim, .methodLink R_S 96 y_O_make, .static y_O_make, .code y_O_make b_O_make 5 none, .methodLink R_O 13 y_V_sayAll, .methodLink R_O 18 y_O_addition, .static y_O_addition, .code y_O_addition b_O_addition 11 none, .methodLink R_O 45 y_V_sayBits, .methodLink R_O 72 y_N_below, .methodLink R_O 76 y_V_sayUnsigned, .methodLink R_O 82 y_N_sumFits, .static y_N_sumFits, .code y_N_sumFits b_N_sumFits 6 (some .boolean), .methodLink R_O 88 y_V_saySigned, .methodLink R_O 24 y_O_subtraction, .static y_O_subtraction, .code y_O_subtraction b_O_subtraction 7 none, .methodLink R_O 91 y_N_differenceFits, .static y_N_differenceFits, .code y_N_differenceFits b_N_differenceFits 6 (some .boolean), .methodLink R_O 27 y_O_multiplication, .static y_O_multiplication, .code y_O_multiplication b_O_multiplication 13 none, .methodLink R_O 94 y_O_knownBelow, .static y_O_knownBelow, .code y_O_knownBelow b_O_knownBelow 1 (some .int), .methodLink R_O 122 y_N_zerosAtEnd, .static y_N_zerosAtEnd, .code y_N_zerosAtEnd b_N_zerosAtEnd 2 (some .int), .methodLink R_N 23 y_Lo_bitCount, .static y_Lo_bitCount, .code y_Lo_bitCount b_Lo_bitCount 2 (some .int), .constantLong R_Lo 314 (6148914691236517205), .constantLong R_Lo 316 (3689348814741910323), .constantLong R_Lo 318 (1085102592571150095), .methodLink R_O 98 y_O_zerosBelow, .static y_O_zerosBelow, .code y_O_zerosBelow b_O_zerosBelow 1 (some .int), .methodLink R_O 101 Lib.Math.min.name, .static Lib.Math.min.name, .code Lib.Math.min.name Lib.Math.min.code 2 (some .int), .methodLink R_O 107 y_N_lowest, .constantLong R_O 43 (-1), .methodLink R_O 111 y_N_unsignedProductFits, .static y_N_unsignedProductFits, .code y_N_unsignedProductFits b_N_unsignedProductFits 4 (some .boolean), .methodLink R_N 19 y_N_quotient, .static y_N_quotient, .code y_N_quotient b_N_quotient 6 (some .long), .methodLink R_O 114 y_N_productFits, .static y_N_productFits, .code y_N_productFits b_N_productFits 4 (some .boolean), .methodLink R_O 117 Lib.MathLoose.min_long.x, .methodLink R_O 119 Lib.MathLoose.max_long.x, .methodLink R_O 30 y_O_division, .static y_O_division, .code y_O_division b_O_division 3 none, .methodLink R_O 7 y_N_quotient, .methodLink R_O 33 y_O_remainder, .static y_O_remainder, .code y_O_remainder b_O_remainder 3 none, .methodLink R_O 65 y_V_take, .methodLink R_O 52 y_N_less, .methodLink R_O 58 y_N_more, .methodLink R_O 61 y_O_shift, .static y_O_shift, .code y_O_shift b_O_shift 8 none, .methodLink R_O 126 y_V_isSingle, .instanceMethod y_V_isSingle, .selects R_V y_V_isSingle y_V_isSingle, .code y_V_isSingle b_V_isSingle 1 (some .boolean), .methodLink R_O 130 y_O_shiftBy, .static y_O_shiftBy, .code y_O_shiftBy b_O_shiftBy 4 none, .methodLink R_O 69 y_V_tighten, .methodLink R_S 100 y_O_reckon, .static y_O_reckon, .code y_O_reckon b_O_reckon 7 (some .long), .instanceMethod y_S_cut, .selects R_S y_S_cut y_S_cut, .code y_S_cut b_S_cut 4 none, .instanceMethod y_S_extend, .selects R_S y_S_extend y_S_extend, .code y_S_extend b_S_extend 4 none, .instanceMethod y_S_swap, .selects R_S y_S_swap y_S_swap, .code y_S_swap b_S_swap 4 none, .methodLink R_S 110 y_V_turnBytes, .instanceMethod y_V_turnBytes, .selects R_V y_V_turnBytes y_V_turnBytes, .code y_V_turnBytes b_V_turnBytes 6 none, .methodLink R_V 115 y_N_turned, .static y_N_turned, .code y_N_turned b_N_turned 6 (some .long), .constantLong R_N 35 (255), .methodLink R_S 113 y_N_turned, .instanceMethod y_S_join, .selects R_S y_S_join y_S_join, .code y_S_join b_S_join 5 none, .methodLink R_S 116 y_V_spread, .instanceMethod y_V_spread, .selects R_V y_V_spread y_V_spread, .code y_V_spread b_V_spread 3 none, .instanceMethod y_S_widen, .selects R_S y_S_widen y_S_widen, .code y_S_widen b_S_widen 4 none, .instanceMethod y_S_branch, .selects R_S y_S_branch y_S_branch, .code y_S_branch b_S_branch 5 (some .boolean), .methodLink R_S 120 y_S_requireComparison, .static y_S_requireComparison, .code y_S_requireComparison b_S_requireComparison 3 none, .methodLink R_S 124 y_C_isSo, .static y_C_isSo, .code y_C_isSo b_C_isSo 5 (some .boolean), .methodLink R_C 7 y_N_below, .methodLink R_S 130 y_C_opposite, .static y_C_opposite, .code y_C_opposite b_C_opposite 1 (some .int), .methodLink R_S 134 y_C_refine, .static y_C_refine, .code y_C_refine b_C_refine 3 none, .methodLink R_C 15 y_C_equate, .static y_C_equate, .code y_C_equate b_C_equate 2 none, .constantLong R_C 52 (-1), .methodLink R_C 58 y_V_sayBits, .methodLink R_C 65 y_N_more, .methodLink R_C 72 y_N_less, .methodLink R_C 75 y_V_sayUnsigned, .methodLink R_C 81 Lib.MathLoose.max_long.x, .methodLink R_C 89 Lib.MathLoose.min_long.x, .methodLink R_C 92 y_V_saySigned, .methodLink R_C 95 y_V_take, .methodLink R_C 19 y_C_part, .static y_C_part, .code y_C_part b_C_part 5 none, .methodLink R_C 99 y_V_isSingle, .methodLink R_C 103 y_C_leaveOut, .static y_C_leaveOut, .code y_C_leaveOut b_C_leaveOut 3 none, .methodLink R_C 22 y_C_orderStrictly, .static y_C_orderStrictly, .code y_C_orderStrictly b_C_orderStrictly 2 none, .methodLink R_C 25 y_C_order, .static y_C_order, .code y_C_order b_C_order 2 none, .methodLink R_C 28 y_C_orderSignedStrictly, .static y_C_orderSignedStrictly, .code y_C_orderSignedStrictly b_C_orderSignedStrictly 2 none, .constantLong R_C 109 (-9223372036854775808), .constantLong R_C 111 (9223372036854775807), .methodLink R_C 31 y_C_orderSigned, .static y_C_orderSigned, .code y_C_orderSigned b_C_orderSigned 2 none, .methodLink R_C 34 y_C_shareBit, .static y_C_shareBit, .code y_C_shareBit b_C_shareBit 5 none, .methodLink R_C 113 y_Lo_bitCount, .methodLink R_C 37 y_C_shareNoBit, .static y_C_shareNoBit, .code y_C_shareNoBit b_C_shareNoBit 3 none, .methodLink R_C 40 y_V_tighten, .instanceMethod y_S_decided, .selects R_S y_S_decided y_S_decided, .code y_S_decided b_S_decided 4 (some .int), .methodLink R_S 138 y_S_canBe, .instanceMethod y_S_canBe, .code y_S_canBe b_S_canBe 4 (some .boolean), .instanceMethod y_S_within, .selects R_S y_S_within y_S_within, .code y_S_within b_S_within 3 (some .boolean), .methodLink R_S 142 y_V_covers, .instanceMethod y_V_covers, .selects R_V y_V_covers y_V_covers, .code y_V_covers b_V_covers 2 (some .boolean), .instanceMethod y_S_has, .selects R_S y_S_has y_S_has, .code y_S_has b_S_has 4 (some .boolean), .instanceMethod y_S_least, .selects R_S y_S_least y_S_least, .code y_S_least b_S_least 3 (some .long), .instanceMethod y_S_greatest, .selects R_S y_S_greatest y_S_greatest, .code y_S_greatest b_S_greatest 3 (some .long), .instanceMethod y_S_unknown, .selects R_S y_S_unknown y_S_unknown, .code y_S_unknown b_S_unknown 2 (some .long), .instanceMethod y_S_witness, .selects R_S y_S_witness y_S_witness, .code y_S_witness b_S_witness 2 (some .long), .arrayClass .boolean, .selects R_S y_S_canBe y_S_canBe, .selects R_S y_S_write y_S_write, .selects R_V y_V_sayStretch y_V_sayStretch, .selects R_V y_V_openBetween y_V_openBetween, .selects R_V y_V_firstOfHalf y_V_firstOfHalf, .selects R_V y_V_lastOfHalf y_V_lastOfHalf]
set_option maxRecDepth 20000 in
theorem gGood : GoodIn gG gG := goodIn_self _ (by decide +kernel)
theorem gw0 : Cond.initialized R_S ∈ gG := List.mem_of_getElem? (i := 0) rfl
theorem gw1 : Cond.initialized R_V ∈ gG := List.mem_of_getElem? (i := 1) rfl
theorem gw2 : Cond.initialized R_N ∈ gG := List.mem_of_getElem? (i := 2) rfl
theorem gw3 : Cond.initialized "java/lang/Math" ∈ gG := List.mem_of_getElem? (i := 3) rfl
theorem gw4 : Cond.initialized R_O ∈ gG := List.mem_of_getElem? (i := 4) rfl
theorem gw5 : Cond.initialized R_Lo ∈ gG := List.mem_of_getElem? (i := 5) rfl
theorem gw6 : Cond.initialized R_C ∈ gG := List.mem_of_getElem? (i := 6) rfl
theorem gw7 : Cond.instantiable R_S 6 ∈ gG := List.mem_of_getElem? (i := 7) rfl
theorem gw8 : Cond.instanceMethod y_S_init ∈ gG := List.mem_of_getElem? (i := 8) rfl
theorem gw9 : Cond.code y_S_init b_S_init 2 none ∈ gG := List.mem_of_getElem? (i := 9) rfl
theorem gw10 : Cond.methodLink R_S 1 objectInit ∈ gG := List.mem_of_getElem? (i := 10) rfl
theorem gw11 : Cond.instanceMethod objectInit ∈ gG := List.mem_of_getElem? (i := 11) rfl
theorem gw12 : Cond.code objectInit ⟨#[0xb1]⟩ 1 none ∈ gG := List.mem_of_getElem? (i := 12) rfl
theorem gw13 : Cond.classLink R_S 9 R_V ∈ gG := List.mem_of_getElem? (i := 13) rfl
theorem gw14 : Cond.instantiable R_V 7 ∈ gG := List.mem_of_getElem? (i := 14) rfl
theorem gw15 : Cond.instanceMethod y_V_init ∈ gG := List.mem_of_getElem? (i := 15) rfl
theorem gw16 : Cond.code y_V_init b_V_init 1 none ∈ gG := List.mem_of_getElem? (i := 16) rfl
theorem gw17 : Cond.methodLink R_V 1 objectInit ∈ gG := List.mem_of_getElem? (i := 17) rfl
theorem gw18 : Cond.fieldLink R_V 7 "ValueSieve$Value" "bits" "J" ∈ gG := List.mem_of_getElem? (i := 18) rfl
theorem gw19 : Cond.fieldLink R_O 36 "ValueSieve$Value" "bits" "J" ∈ gG := List.mem_of_getElem? (i := 19) rfl
theorem gw20 : Cond.fieldLink R_C 45 "ValueSieve$Value" "bits" "J" ∈ gG := List.mem_of_getElem? (i := 20) rfl
theorem gw21 : Cond.fieldLink R_V 13 "ValueSieve$Value" "unknown" "J" ∈ gG := List.mem_of_getElem? (i := 21) rfl
theorem gw22 : Cond.fieldLink R_O 40 "ValueSieve$Value" "unknown" "J" ∈ gG := List.mem_of_getElem? (i := 22) rfl
theorem gw23 : Cond.fieldLink R_C 49 "ValueSieve$Value" "unknown" "J" ∈ gG := List.mem_of_getElem? (i := 23) rfl
theorem gw24 : Cond.fieldLink R_S 159 "ValueSieve$Value" "unknown" "J" ∈ gG := List.mem_of_getElem? (i := 24) rfl
theorem gw25 : Cond.fieldLink R_V 16 "ValueSieve$Value" "low" "J" ∈ gG := List.mem_of_getElem? (i := 25) rfl
theorem gw26 : Cond.fieldLink R_O 55 "ValueSieve$Value" "low" "J" ∈ gG := List.mem_of_getElem? (i := 26) rfl
theorem gw27 : Cond.fieldLink R_C 62 "ValueSieve$Value" "low" "J" ∈ gG := List.mem_of_getElem? (i := 27) rfl
theorem gw28 : Cond.fieldLink R_S 146 "ValueSieve$Value" "low" "J" ∈ gG := List.mem_of_getElem? (i := 28) rfl
theorem gw29 : Cond.fieldLink R_V 19 "ValueSieve$Value" "high" "J" ∈ gG := List.mem_of_getElem? (i := 29) rfl
theorem gw30 : Cond.fieldLink R_O 49 "ValueSieve$Value" "high" "J" ∈ gG := List.mem_of_getElem? (i := 30) rfl
theorem gw31 : Cond.fieldLink R_C 69 "ValueSieve$Value" "high" "J" ∈ gG := List.mem_of_getElem? (i := 31) rfl
theorem gw32 : Cond.fieldLink R_S 153 "ValueSieve$Value" "high" "J" ∈ gG := List.mem_of_getElem? (i := 32) rfl
theorem gw33 : Cond.fieldLink R_V 22 "ValueSieve$Value" "least" "J" ∈ gG := List.mem_of_getElem? (i := 33) rfl
theorem gw34 : Cond.fieldLink R_O 79 "ValueSieve$Value" "least" "J" ∈ gG := List.mem_of_getElem? (i := 34) rfl
theorem gw35 : Cond.fieldLink R_C 78 "ValueSieve$Value" "least" "J" ∈ gG := List.mem_of_getElem? (i := 35) rfl
theorem gw36 : Cond.fieldLink R_S 150 "ValueSieve$Value" "least" "J" ∈ gG := List.mem_of_getElem? (i := 36) rfl
theorem gw37 : Cond.fieldLink R_V 25 "ValueSieve$Value" "greatest" "J" ∈ gG := List.mem_of_getElem? (i := 37) rfl
theorem gw38 : Cond.fieldLink R_O 85 "ValueSieve$Value" "greatest" "J" ∈ gG := List.mem_of_getElem? (i := 38) rfl
theorem gw39 : Cond.fieldLink R_C 86 "ValueSieve$Value" "greatest" "J" ∈ gG := List.mem_of_getElem? (i := 39) rfl
theorem gw40 : Cond.fieldLink R_S 156 "ValueSieve$Value" "greatest" "J" ∈ gG := List.mem_of_getElem? (i := 40) rfl
theorem gw41 : Cond.fieldLink R_V 28 "ValueSieve$Value" "nothing" "Z" ∈ gG := List.mem_of_getElem? (i := 41) rfl
theorem gw42 : Cond.fieldLink R_C 54 "ValueSieve$Value" "nothing" "Z" ∈ gG := List.mem_of_getElem? (i := 42) rfl
theorem gw43 : Cond.fieldLink R_S 171 "ValueSieve$Value" "nothing" "Z" ∈ gG := List.mem_of_getElem? (i := 43) rfl
theorem gw44 : Cond.lays R_V "ValueSieve$Value" "bits" "J" ∈ gG := List.mem_of_getElem? (i := 44) rfl
theorem gw45 : Cond.lays R_V "ValueSieve$Value" "unknown" "J" ∈ gG := List.mem_of_getElem? (i := 45) rfl
theorem gw46 : Cond.lays R_V "ValueSieve$Value" "low" "J" ∈ gG := List.mem_of_getElem? (i := 46) rfl
theorem gw47 : Cond.lays R_V "ValueSieve$Value" "high" "J" ∈ gG := List.mem_of_getElem? (i := 47) rfl
theorem gw48 : Cond.lays R_V "ValueSieve$Value" "least" "J" ∈ gG := List.mem_of_getElem? (i := 48) rfl
theorem gw49 : Cond.lays R_V "ValueSieve$Value" "greatest" "J" ∈ gG := List.mem_of_getElem? (i := 49) rfl
theorem gw50 : Cond.lays R_V "ValueSieve$Value" "nothing" "Z" ∈ gG := List.mem_of_getElem? (i := 50) rfl
theorem gw51 : Cond.arrayClass .long ∈ gG := List.mem_of_getElem? (i := 51) rfl
theorem gw52 : Cond.fieldLink R_S 11 "ValueSieve" "values" "[LValueSieve$Value;" ∈ gG := List.mem_of_getElem? (i := 52) rfl
theorem gw53 : Cond.fieldLink R_S 15 "ValueSieve" "witnesses" "[J" ∈ gG := List.mem_of_getElem? (i := 53) rfl
theorem gw54 : Cond.fieldLink R_S 20 "ValueSieve" "x" "LValueSieve$Value;" ∈ gG := List.mem_of_getElem? (i := 54) rfl
theorem gw55 : Cond.fieldLink R_S 24 "ValueSieve" "y" "LValueSieve$Value;" ∈ gG := List.mem_of_getElem? (i := 55) rfl
theorem gw56 : Cond.fieldLink R_S 27 "ValueSieve" "made" "LValueSieve$Value;" ∈ gG := List.mem_of_getElem? (i := 56) rfl
theorem gw57 : Cond.fieldLink R_S 30 "ValueSieve" "strayCount" "I" ∈ gG := List.mem_of_getElem? (i := 57) rfl
theorem gw58 : Cond.laysFinal R_S "ValueSieve" "values" "[LValueSieve$Value;" ∈ gG := List.mem_of_getElem? (i := 58) rfl
theorem gw59 : Cond.laysFinal R_S "ValueSieve" "witnesses" "[J" ∈ gG := List.mem_of_getElem? (i := 59) rfl
theorem gw60 : Cond.laysFinal R_S "ValueSieve" "x" "LValueSieve$Value;" ∈ gG := List.mem_of_getElem? (i := 60) rfl
theorem gw61 : Cond.laysFinal R_S "ValueSieve" "y" "LValueSieve$Value;" ∈ gG := List.mem_of_getElem? (i := 61) rfl
theorem gw62 : Cond.laysFinal R_S "ValueSieve" "made" "LValueSieve$Value;" ∈ gG := List.mem_of_getElem? (i := 62) rfl
theorem gw63 : Cond.lays R_S "ValueSieve" "strayCount" "I" ∈ gG := List.mem_of_getElem? (i := 63) rfl
theorem gw64 : Cond.instanceMethod y_S_strays ∈ gG := List.mem_of_getElem? (i := 64) rfl
theorem gw65 : Cond.selects R_S y_S_strays y_S_strays ∈ gG := List.mem_of_getElem? (i := 65) rfl
theorem gw66 : Cond.code y_S_strays b_S_strays 1 (some .int) ∈ gG := List.mem_of_getElem? (i := 66) rfl
theorem gw67 : Cond.instanceMethod y_S_any ∈ gG := List.mem_of_getElem? (i := 67) rfl
theorem gw68 : Cond.selects R_S y_S_any y_S_any ∈ gG := List.mem_of_getElem? (i := 68) rfl
theorem gw69 : Cond.code y_S_any b_S_any 4 none ∈ gG := List.mem_of_getElem? (i := 69) rfl
theorem gw70 : Cond.methodLink R_S 34 y_S_requirePlace ∈ gG := List.mem_of_getElem? (i := 70) rfl
theorem gw71 : Cond.static y_S_requirePlace ∈ gG := List.mem_of_getElem? (i := 71) rfl
theorem gw72 : Cond.code y_S_requirePlace b_S_requirePlace 1 none ∈ gG := List.mem_of_getElem? (i := 72) rfl
theorem gw73 : Cond.arrayClass .byte ∈ gG := List.mem_of_getElem? (i := 73) rfl
theorem gw74 : Cond.methodLink R_S 38 y_V_sayAll ∈ gG := List.mem_of_getElem? (i := 74) rfl
theorem gw75 : Cond.instanceMethod y_V_sayAll ∈ gG := List.mem_of_getElem? (i := 75) rfl
theorem gw76 : Cond.selects R_V y_V_sayAll y_V_sayAll ∈ gG := List.mem_of_getElem? (i := 76) rfl
theorem gw77 : Cond.code y_V_sayAll b_V_sayAll 1 none ∈ gG := List.mem_of_getElem? (i := 77) rfl
theorem gw78 : Cond.constantLong R_V 32 (-1) ∈ gG := List.mem_of_getElem? (i := 78) rfl
theorem gw79 : Cond.methodLink R_V 34 y_V_sayBits ∈ gG := List.mem_of_getElem? (i := 79) rfl
theorem gw80 : Cond.instanceMethod y_V_sayBits ∈ gG := List.mem_of_getElem? (i := 80) rfl
theorem gw81 : Cond.selects R_V y_V_sayBits y_V_sayBits ∈ gG := List.mem_of_getElem? (i := 81) rfl
theorem gw82 : Cond.code y_V_sayBits b_V_sayBits 5 none ∈ gG := List.mem_of_getElem? (i := 82) rfl
theorem gw83 : Cond.methodLink R_V 38 y_V_sayUnsigned ∈ gG := List.mem_of_getElem? (i := 83) rfl
theorem gw84 : Cond.instanceMethod y_V_sayUnsigned ∈ gG := List.mem_of_getElem? (i := 84) rfl
theorem gw85 : Cond.selects R_V y_V_sayUnsigned y_V_sayUnsigned ∈ gG := List.mem_of_getElem? (i := 85) rfl
theorem gw86 : Cond.code y_V_sayUnsigned b_V_sayUnsigned 5 none ∈ gG := List.mem_of_getElem? (i := 86) rfl
theorem gw87 : Cond.constantLong R_V 43 (-9223372036854775808) ∈ gG := List.mem_of_getElem? (i := 87) rfl
theorem gw88 : Cond.constantLong R_V 45 (9223372036854775807) ∈ gG := List.mem_of_getElem? (i := 88) rfl
theorem gw89 : Cond.methodLink R_V 47 y_V_saySigned ∈ gG := List.mem_of_getElem? (i := 89) rfl
theorem gw90 : Cond.instanceMethod y_V_saySigned ∈ gG := List.mem_of_getElem? (i := 90) rfl
theorem gw91 : Cond.selects R_V y_V_saySigned y_V_saySigned ∈ gG := List.mem_of_getElem? (i := 91) rfl
theorem gw92 : Cond.code y_V_saySigned b_V_saySigned 5 none ∈ gG := List.mem_of_getElem? (i := 92) rfl
theorem gw93 : Cond.methodLink R_S 41 y_S_write ∈ gG := List.mem_of_getElem? (i := 93) rfl
theorem gw94 : Cond.instanceMethod y_S_write ∈ gG := List.mem_of_getElem? (i := 94) rfl
theorem gw95 : Cond.code y_S_write b_S_write 5 none ∈ gG := List.mem_of_getElem? (i := 95) rfl
theorem gw96 : Cond.methodLink R_S 77 y_V_take ∈ gG := List.mem_of_getElem? (i := 96) rfl
theorem gw97 : Cond.instanceMethod y_V_take ∈ gG := List.mem_of_getElem? (i := 97) rfl
theorem gw98 : Cond.selects R_V y_V_take y_V_take ∈ gG := List.mem_of_getElem? (i := 98) rfl
theorem gw99 : Cond.code y_V_take b_V_take 2 none ∈ gG := List.mem_of_getElem? (i := 99) rfl
theorem gw100 : Cond.methodLink R_S 58 y_V_holds ∈ gG := List.mem_of_getElem? (i := 100) rfl
theorem gw101 : Cond.instanceMethod y_V_holds ∈ gG := List.mem_of_getElem? (i := 101) rfl
theorem gw102 : Cond.selects R_V y_V_holds y_V_holds ∈ gG := List.mem_of_getElem? (i := 102) rfl
theorem gw103 : Cond.code y_V_holds b_V_holds 3 (some .boolean) ∈ gG := List.mem_of_getElem? (i := 103) rfl
theorem gw104 : Cond.methodLink R_V 50 y_N_below ∈ gG := List.mem_of_getElem? (i := 104) rfl
theorem gw105 : Cond.static y_N_below ∈ gG := List.mem_of_getElem? (i := 105) rfl
theorem gw106 : Cond.code y_N_below b_N_below 4 (some .boolean) ∈ gG := List.mem_of_getElem? (i := 106) rfl
theorem gw107 : Cond.constantLong R_N 9 (-9223372036854775808) ∈ gG := List.mem_of_getElem? (i := 107) rfl
theorem gw108 : Cond.instanceMethod y_S_constant ∈ gG := List.mem_of_getElem? (i := 108) rfl
theorem gw109 : Cond.selects R_S y_S_constant y_S_constant ∈ gG := List.mem_of_getElem? (i := 109) rfl
theorem gw110 : Cond.code y_S_constant b_S_constant 4 none ∈ gG := List.mem_of_getElem? (i := 110) rfl
theorem gw111 : Cond.methodLink R_S 45 y_V_sayBits ∈ gG := List.mem_of_getElem? (i := 111) rfl
theorem gw112 : Cond.methodLink R_S 49 y_V_tighten ∈ gG := List.mem_of_getElem? (i := 112) rfl
theorem gw113 : Cond.instanceMethod y_V_tighten ∈ gG := List.mem_of_getElem? (i := 113) rfl
theorem gw114 : Cond.selects R_V y_V_tighten y_V_tighten ∈ gG := List.mem_of_getElem? (i := 114) rfl
theorem gw115 : Cond.code y_V_tighten b_V_tighten 13 none ∈ gG := List.mem_of_getElem? (i := 115) rfl
theorem gw116 : Cond.methodLink R_V 56 y_V_firstOfHalf ∈ gG := List.mem_of_getElem? (i := 116) rfl
theorem gw117 : Cond.instanceMethod y_V_firstOfHalf ∈ gG := List.mem_of_getElem? (i := 117) rfl
theorem gw118 : Cond.code y_V_firstOfHalf b_V_firstOfHalf 5 (some .long) ∈ gG := List.mem_of_getElem? (i := 118) rfl
theorem gw119 : Cond.methodLink R_V 77 Lib.MathLoose.max_long.x ∈ gG := List.mem_of_getElem? (i := 119) rfl
theorem gw120 : Cond.static Lib.MathLoose.max_long.x ∈ gG := List.mem_of_getElem? (i := 120) rfl
theorem gw121 : Cond.code Lib.MathLoose.max_long.x Lib.MathLoose.max_long.code 4 (some .long) ∈ gG := List.mem_of_getElem? (i := 121) rfl
theorem gw122 : Cond.methodLink R_V 82 y_N_more ∈ gG := List.mem_of_getElem? (i := 122) rfl
theorem gw123 : Cond.static y_N_more ∈ gG := List.mem_of_getElem? (i := 123) rfl
theorem gw124 : Cond.code y_N_more b_N_more 4 (some .long) ∈ gG := List.mem_of_getElem? (i := 124) rfl
theorem gw125 : Cond.methodLink R_N 11 y_N_below ∈ gG := List.mem_of_getElem? (i := 125) rfl
theorem gw126 : Cond.methodLink R_V 85 y_N_firstFrom ∈ gG := List.mem_of_getElem? (i := 126) rfl
theorem gw127 : Cond.static y_N_firstFrom ∈ gG := List.mem_of_getElem? (i := 127) rfl
theorem gw128 : Cond.code y_N_firstFrom b_N_firstFrom 16 (some .long) ∈ gG := List.mem_of_getElem? (i := 128) rfl
theorem gw129 : Cond.constantLong R_N 17 (-1) ∈ gG := List.mem_of_getElem? (i := 129) rfl
theorem gw130 : Cond.methodLink R_N 27 y_N_upToHighest ∈ gG := List.mem_of_getElem? (i := 130) rfl
theorem gw131 : Cond.static y_N_upToHighest ∈ gG := List.mem_of_getElem? (i := 131) rfl
theorem gw132 : Cond.code y_N_upToHighest b_N_upToHighest 4 (some .long) ∈ gG := List.mem_of_getElem? (i := 132) rfl
theorem gw133 : Cond.methodLink R_V 60 y_V_lastOfHalf ∈ gG := List.mem_of_getElem? (i := 133) rfl
theorem gw134 : Cond.instanceMethod y_V_lastOfHalf ∈ gG := List.mem_of_getElem? (i := 134) rfl
theorem gw135 : Cond.code y_V_lastOfHalf b_V_lastOfHalf 9 (some .long) ∈ gG := List.mem_of_getElem? (i := 135) rfl
theorem gw136 : Cond.methodLink R_V 89 Lib.MathLoose.min_long.x ∈ gG := List.mem_of_getElem? (i := 136) rfl
theorem gw137 : Cond.static Lib.MathLoose.min_long.x ∈ gG := List.mem_of_getElem? (i := 137) rfl
theorem gw138 : Cond.code Lib.MathLoose.min_long.x Lib.MathLoose.min_long.code 4 (some .long) ∈ gG := List.mem_of_getElem? (i := 138) rfl
theorem gw139 : Cond.methodLink R_V 92 y_N_less ∈ gG := List.mem_of_getElem? (i := 139) rfl
theorem gw140 : Cond.static y_N_less ∈ gG := List.mem_of_getElem? (i := 140) rfl
theorem gw141 : Cond.code y_N_less b_N_less 4 (some .long) ∈ gG := List.mem_of_getElem? (i := 141) rfl
theorem gw142 : Cond.methodLink R_V 63 y_V_holds ∈ gG := List.mem_of_getElem? (i := 142) rfl
theorem gw143 : Cond.methodLink R_V 67 y_V_openBetween ∈ gG := List.mem_of_getElem? (i := 143) rfl
theorem gw144 : Cond.instanceMethod y_V_openBetween ∈ gG := List.mem_of_getElem? (i := 144) rfl
theorem gw145 : Cond.code y_V_openBetween b_V_openBetween 5 (some .long) ∈ gG := List.mem_of_getElem? (i := 145) rfl
theorem gw146 : Cond.methodLink R_V 74 y_N_upToHighest ∈ gG := List.mem_of_getElem? (i := 146) rfl
theorem gw147 : Cond.methodLink R_V 71 y_V_sayStretch ∈ gG := List.mem_of_getElem? (i := 147) rfl
theorem gw148 : Cond.instanceMethod y_V_sayStretch ∈ gG := List.mem_of_getElem? (i := 148) rfl
theorem gw149 : Cond.code y_V_sayStretch b_V_sayStretch 5 none ∈ gG := List.mem_of_getElem? (i := 149) rfl
theorem gw150 : Cond.instanceMethod y_S_between ∈ gG := List.mem_of_getElem? (i := 150) rfl
theorem gw151 : Cond.selects R_S y_S_between y_S_between ∈ gG := List.mem_of_getElem? (i := 151) rfl
theorem gw152 : Cond.code y_S_between b_S_between 9 none ∈ gG := List.mem_of_getElem? (i := 152) rfl
theorem gw153 : Cond.methodLink R_S 52 y_V_sayUnsigned ∈ gG := List.mem_of_getElem? (i := 153) rfl
theorem gw154 : Cond.methodLink R_S 55 y_V_saySigned ∈ gG := List.mem_of_getElem? (i := 154) rfl
theorem gw155 : Cond.instanceMethod y_S_pattern ∈ gG := List.mem_of_getElem? (i := 155) rfl
theorem gw156 : Cond.selects R_S y_S_pattern y_S_pattern ∈ gG := List.mem_of_getElem? (i := 156) rfl
theorem gw157 : Cond.code y_S_pattern b_S_pattern 8 none ∈ gG := List.mem_of_getElem? (i := 157) rfl
theorem gw158 : Cond.instanceMethod y_S_operate ∈ gG := List.mem_of_getElem? (i := 158) rfl
theorem gw159 : Cond.selects R_S y_S_operate y_S_operate ∈ gG := List.mem_of_getElem? (i := 159) rfl
theorem gw160 : Cond.code y_S_operate b_S_operate 11 none ∈ gG := List.mem_of_getElem? (i := 160) rfl
theorem gw161 : Cond.methodLink R_S 81 y_N_extended ∈ gG := List.mem_of_getElem? (i := 161) rfl
theorem gw162 : Cond.static y_N_extended ∈ gG := List.mem_of_getElem? (i := 162) rfl
theorem gw163 : Cond.code y_N_extended b_N_extended 4 (some .long) ∈ gG := List.mem_of_getElem? (i := 163) rfl
theorem gw164 : Cond.methodLink R_S 87 y_N_trimmed ∈ gG := List.mem_of_getElem? (i := 164) rfl
theorem gw165 : Cond.static y_N_trimmed ∈ gG := List.mem_of_getElem? (i := 165) rfl
theorem gw166 : Cond.code y_N_trimmed b_N_trimmed 3 (some .long) ∈ gG := List.mem_of_getElem? (i := 166) rfl
theorem gw167 : Cond.methodLink R_N 31 y_N_lowest ∈ gG := List.mem_of_getElem? (i := 167) rfl
theorem gw168 : Cond.static y_N_lowest ∈ gG := List.mem_of_getElem? (i := 168) rfl
theorem gw169 : Cond.code y_N_lowest b_N_lowest 1 (some .long) ∈ gG := List.mem_of_getElem? (i := 169) rfl
theorem gw170 : Cond.methodLink R_S 90 y_V_signExtend ∈ gG := List.mem_of_getElem? (i := 170) rfl
theorem gw171 : Cond.instanceMethod y_V_signExtend ∈ gG := List.mem_of_getElem? (i := 171) rfl
theorem gw172 : Cond.selects R_V y_V_signExtend y_V_signExtend ∈ gG := List.mem_of_getElem? (i := 172) rfl
theorem gw173 : Cond.code y_V_signExtend b_V_signExtend 12 none ∈ gG := List.mem_of_getElem? (i := 173) rfl
theorem gw174 : Cond.methodLink R_V 105 y_V_trim ∈ gG := List.mem_of_getElem? (i := 174) rfl
theorem gw175 : Cond.instanceMethod y_V_trim ∈ gG := List.mem_of_getElem? (i := 175) rfl
theorem gw176 : Cond.selects R_V y_V_trim y_V_trim ∈ gG := List.mem_of_getElem? (i := 176) rfl
theorem gw177 : Cond.code y_V_trim b_V_trim 13 none ∈ gG := List.mem_of_getElem? (i := 177) rfl
theorem gw178 : Cond.methodLink R_V 95 y_N_lowest ∈ gG := List.mem_of_getElem? (i := 178) rfl
theorem gw179 : Cond.methodLink R_V 99 y_V_sayAll ∈ gG := List.mem_of_getElem? (i := 179) rfl
theorem gw180 : Cond.methodLink R_V 102 y_V_tighten ∈ gG := List.mem_of_getElem? (i := 180) rfl
theorem gw181 : Cond.methodLink R_V 109 y_N_extended ∈ gG := List.mem_of_getElem? (i := 181) rfl
theorem gw182 : Cond.constantLong R_V 113 (2) ∈ gG := List.mem_of_getElem? (i := 182) rfl
theorem gw183 : Cond.methodLink R_S 93 y_V_trim ∈ gG := List.mem_of_getElem? (i := 183) rfl
theorem gw184 : Cond.methodLink R_S 96 y_O_make ∈ gG := List.mem_of_getElem? (i := 184) rfl
theorem gw185 : Cond.static y_O_make ∈ gG := List.mem_of_getElem? (i := 185) rfl
theorem gw186 : Cond.code y_O_make b_O_make 5 none ∈ gG := List.mem_of_getElem? (i := 186) rfl
theorem gw187 : Cond.methodLink R_O 13 y_V_sayAll ∈ gG := List.mem_of_getElem? (i := 187) rfl
theorem gw188 : Cond.methodLink R_O 18 y_O_addition ∈ gG := List.mem_of_getElem? (i := 188) rfl
theorem gw189 : Cond.static y_O_addition ∈ gG := List.mem_of_getElem? (i := 189) rfl
theorem gw190 : Cond.code y_O_addition b_O_addition 11 none ∈ gG := List.mem_of_getElem? (i := 190) rfl
theorem gw191 : Cond.methodLink R_O 45 y_V_sayBits ∈ gG := List.mem_of_getElem? (i := 191) rfl
theorem gw192 : Cond.methodLink R_O 72 y_N_below ∈ gG := List.mem_of_getElem? (i := 192) rfl
theorem gw193 : Cond.methodLink R_O 76 y_V_sayUnsigned ∈ gG := List.mem_of_getElem? (i := 193) rfl
theorem gw194 : Cond.methodLink R_O 82 y_N_sumFits ∈ gG := List.mem_of_getElem? (i := 194) rfl
theorem gw195 : Cond.static y_N_sumFits ∈ gG := List.mem_of_getElem? (i := 195) rfl
theorem gw196 : Cond.code y_N_sumFits b_N_sumFits 6 (some .boolean) ∈ gG := List.mem_of_getElem? (i := 196) rfl
theorem gw197 : Cond.methodLink R_O 88 y_V_saySigned ∈ gG := List.mem_of_getElem? (i := 197) rfl
theorem gw198 : Cond.methodLink R_O 24 y_O_subtraction ∈ gG := List.mem_of_getElem? (i := 198) rfl
theorem gw199 : Cond.static y_O_subtraction ∈ gG := List.mem_of_getElem? (i := 199) rfl
theorem gw200 : Cond.code y_O_subtraction b_O_subtraction 7 none ∈ gG := List.mem_of_getElem? (i := 200) rfl
theorem gw201 : Cond.methodLink R_O 91 y_N_differenceFits ∈ gG := List.mem_of_getElem? (i := 201) rfl
theorem gw202 : Cond.static y_N_differenceFits ∈ gG := List.mem_of_getElem? (i := 202) rfl
theorem gw203 : Cond.code y_N_differenceFits b_N_differenceFits 6 (some .boolean) ∈ gG := List.mem_of_getElem? (i := 203) rfl
theorem gw204 : Cond.methodLink R_O 27 y_O_multiplication ∈ gG := List.mem_of_getElem? (i := 204) rfl
theorem gw205 : Cond.static y_O_multiplication ∈ gG := List.mem_of_getElem? (i := 205) rfl
theorem gw206 : Cond.code y_O_multiplication b_O_multiplication 13 none ∈ gG := List.mem_of_getElem? (i := 206) rfl
theorem gw207 : Cond.methodLink R_O 94 y_O_knownBelow ∈ gG := List.mem_of_getElem? (i := 207) rfl
theorem gw208 : Cond.static y_O_knownBelow ∈ gG := List.mem_of_getElem? (i := 208) rfl
theorem gw209 : Cond.code y_O_knownBelow b_O_knownBelow 1 (some .int) ∈ gG := List.mem_of_getElem? (i := 209) rfl
theorem gw210 : Cond.methodLink R_O 122 y_N_zerosAtEnd ∈ gG := List.mem_of_getElem? (i := 210) rfl
theorem gw211 : Cond.static y_N_zerosAtEnd ∈ gG := List.mem_of_getElem? (i := 211) rfl
theorem gw212 : Cond.code y_N_zerosAtEnd b_N_zerosAtEnd 2 (some .int) ∈ gG := List.mem_of_getElem? (i := 212) rfl
theorem gw213 : Cond.methodLink R_N 23 y_Lo_bitCount ∈ gG := List.mem_of_getElem? (i := 213) rfl
theorem gw214 : Cond.static y_Lo_bitCount ∈ gG := List.mem_of_getElem? (i := 214) rfl
theorem gw215 : Cond.code y_Lo_bitCount b_Lo_bitCount 2 (some .int) ∈ gG := List.mem_of_getElem? (i := 215) rfl
theorem gw216 : Cond.constantLong R_Lo 314 (6148914691236517205) ∈ gG := List.mem_of_getElem? (i := 216) rfl
theorem gw217 : Cond.constantLong R_Lo 316 (3689348814741910323) ∈ gG := List.mem_of_getElem? (i := 217) rfl
theorem gw218 : Cond.constantLong R_Lo 318 (1085102592571150095) ∈ gG := List.mem_of_getElem? (i := 218) rfl
theorem gw219 : Cond.methodLink R_O 98 y_O_zerosBelow ∈ gG := List.mem_of_getElem? (i := 219) rfl
theorem gw220 : Cond.static y_O_zerosBelow ∈ gG := List.mem_of_getElem? (i := 220) rfl
theorem gw221 : Cond.code y_O_zerosBelow b_O_zerosBelow 1 (some .int) ∈ gG := List.mem_of_getElem? (i := 221) rfl
theorem gw222 : Cond.methodLink R_O 101 Lib.Math.min.name ∈ gG := List.mem_of_getElem? (i := 222) rfl
theorem gw223 : Cond.static Lib.Math.min.name ∈ gG := List.mem_of_getElem? (i := 223) rfl
theorem gw224 : Cond.code Lib.Math.min.name Lib.Math.min.code 2 (some .int) ∈ gG := List.mem_of_getElem? (i := 224) rfl
theorem gw225 : Cond.methodLink R_O 107 y_N_lowest ∈ gG := List.mem_of_getElem? (i := 225) rfl
theorem gw226 : Cond.constantLong R_O 43 (-1) ∈ gG := List.mem_of_getElem? (i := 226) rfl
theorem gw227 : Cond.methodLink R_O 111 y_N_unsignedProductFits ∈ gG := List.mem_of_getElem? (i := 227) rfl
theorem gw228 : Cond.static y_N_unsignedProductFits ∈ gG := List.mem_of_getElem? (i := 228) rfl
theorem gw229 : Cond.code y_N_unsignedProductFits b_N_unsignedProductFits 4 (some .boolean) ∈ gG := List.mem_of_getElem? (i := 229) rfl
theorem gw230 : Cond.methodLink R_N 19 y_N_quotient ∈ gG := List.mem_of_getElem? (i := 230) rfl
theorem gw231 : Cond.static y_N_quotient ∈ gG := List.mem_of_getElem? (i := 231) rfl
theorem gw232 : Cond.code y_N_quotient b_N_quotient 6 (some .long) ∈ gG := List.mem_of_getElem? (i := 232) rfl
theorem gw233 : Cond.methodLink R_O 114 y_N_productFits ∈ gG := List.mem_of_getElem? (i := 233) rfl
theorem gw234 : Cond.static y_N_productFits ∈ gG := List.mem_of_getElem? (i := 234) rfl
theorem gw235 : Cond.code y_N_productFits b_N_productFits 4 (some .boolean) ∈ gG := List.mem_of_getElem? (i := 235) rfl
theorem gw236 : Cond.methodLink R_O 117 Lib.MathLoose.min_long.x ∈ gG := List.mem_of_getElem? (i := 236) rfl
theorem gw237 : Cond.methodLink R_O 119 Lib.MathLoose.max_long.x ∈ gG := List.mem_of_getElem? (i := 237) rfl
theorem gw238 : Cond.methodLink R_O 30 y_O_division ∈ gG := List.mem_of_getElem? (i := 238) rfl
theorem gw239 : Cond.static y_O_division ∈ gG := List.mem_of_getElem? (i := 239) rfl
theorem gw240 : Cond.code y_O_division b_O_division 3 none ∈ gG := List.mem_of_getElem? (i := 240) rfl
theorem gw241 : Cond.methodLink R_O 7 y_N_quotient ∈ gG := List.mem_of_getElem? (i := 241) rfl
theorem gw242 : Cond.methodLink R_O 33 y_O_remainder ∈ gG := List.mem_of_getElem? (i := 242) rfl
theorem gw243 : Cond.static y_O_remainder ∈ gG := List.mem_of_getElem? (i := 243) rfl
theorem gw244 : Cond.code y_O_remainder b_O_remainder 3 none ∈ gG := List.mem_of_getElem? (i := 244) rfl
theorem gw245 : Cond.methodLink R_O 65 y_V_take ∈ gG := List.mem_of_getElem? (i := 245) rfl
theorem gw246 : Cond.methodLink R_O 52 y_N_less ∈ gG := List.mem_of_getElem? (i := 246) rfl
theorem gw247 : Cond.methodLink R_O 58 y_N_more ∈ gG := List.mem_of_getElem? (i := 247) rfl
theorem gw248 : Cond.methodLink R_O 61 y_O_shift ∈ gG := List.mem_of_getElem? (i := 248) rfl
theorem gw249 : Cond.static y_O_shift ∈ gG := List.mem_of_getElem? (i := 249) rfl
theorem gw250 : Cond.code y_O_shift b_O_shift 8 none ∈ gG := List.mem_of_getElem? (i := 250) rfl
theorem gw251 : Cond.methodLink R_O 126 y_V_isSingle ∈ gG := List.mem_of_getElem? (i := 251) rfl
theorem gw252 : Cond.instanceMethod y_V_isSingle ∈ gG := List.mem_of_getElem? (i := 252) rfl
theorem gw253 : Cond.selects R_V y_V_isSingle y_V_isSingle ∈ gG := List.mem_of_getElem? (i := 253) rfl
theorem gw254 : Cond.code y_V_isSingle b_V_isSingle 1 (some .boolean) ∈ gG := List.mem_of_getElem? (i := 254) rfl
theorem gw255 : Cond.methodLink R_O 130 y_O_shiftBy ∈ gG := List.mem_of_getElem? (i := 255) rfl
theorem gw256 : Cond.static y_O_shiftBy ∈ gG := List.mem_of_getElem? (i := 256) rfl
theorem gw257 : Cond.code y_O_shiftBy b_O_shiftBy 4 none ∈ gG := List.mem_of_getElem? (i := 257) rfl
theorem gw258 : Cond.methodLink R_O 69 y_V_tighten ∈ gG := List.mem_of_getElem? (i := 258) rfl
theorem gw259 : Cond.methodLink R_S 100 y_O_reckon ∈ gG := List.mem_of_getElem? (i := 259) rfl
theorem gw260 : Cond.static y_O_reckon ∈ gG := List.mem_of_getElem? (i := 260) rfl
theorem gw261 : Cond.code y_O_reckon b_O_reckon 7 (some .long) ∈ gG := List.mem_of_getElem? (i := 261) rfl
theorem gw262 : Cond.instanceMethod y_S_cut ∈ gG := List.mem_of_getElem? (i := 262) rfl
theorem gw263 : Cond.selects R_S y_S_cut y_S_cut ∈ gG := List.mem_of_getElem? (i := 263) rfl
theorem gw264 : Cond.code y_S_cut b_S_cut 4 none ∈ gG := List.mem_of_getElem? (i := 264) rfl
theorem gw265 : Cond.instanceMethod y_S_extend ∈ gG := List.mem_of_getElem? (i := 265) rfl
theorem gw266 : Cond.selects R_S y_S_extend y_S_extend ∈ gG := List.mem_of_getElem? (i := 266) rfl
theorem gw267 : Cond.code y_S_extend b_S_extend 4 none ∈ gG := List.mem_of_getElem? (i := 267) rfl
theorem gw268 : Cond.instanceMethod y_S_swap ∈ gG := List.mem_of_getElem? (i := 268) rfl
theorem gw269 : Cond.selects R_S y_S_swap y_S_swap ∈ gG := List.mem_of_getElem? (i := 269) rfl
theorem gw270 : Cond.code y_S_swap b_S_swap 4 none ∈ gG := List.mem_of_getElem? (i := 270) rfl
theorem gw271 : Cond.methodLink R_S 110 y_V_turnBytes ∈ gG := List.mem_of_getElem? (i := 271) rfl
theorem gw272 : Cond.instanceMethod y_V_turnBytes ∈ gG := List.mem_of_getElem? (i := 272) rfl
theorem gw273 : Cond.selects R_V y_V_turnBytes y_V_turnBytes ∈ gG := List.mem_of_getElem? (i := 273) rfl
theorem gw274 : Cond.code y_V_turnBytes b_V_turnBytes 6 none ∈ gG := List.mem_of_getElem? (i := 274) rfl
theorem gw275 : Cond.methodLink R_V 115 y_N_turned ∈ gG := List.mem_of_getElem? (i := 275) rfl
theorem gw276 : Cond.static y_N_turned ∈ gG := List.mem_of_getElem? (i := 276) rfl
theorem gw277 : Cond.code y_N_turned b_N_turned 6 (some .long) ∈ gG := List.mem_of_getElem? (i := 277) rfl
theorem gw278 : Cond.constantLong R_N 35 (255) ∈ gG := List.mem_of_getElem? (i := 278) rfl
theorem gw279 : Cond.methodLink R_S 113 y_N_turned ∈ gG := List.mem_of_getElem? (i := 279) rfl
theorem gw280 : Cond.instanceMethod y_S_join ∈ gG := List.mem_of_getElem? (i := 280) rfl
theorem gw281 : Cond.selects R_S y_S_join y_S_join ∈ gG := List.mem_of_getElem? (i := 281) rfl
theorem gw282 : Cond.code y_S_join b_S_join 5 none ∈ gG := List.mem_of_getElem? (i := 282) rfl
theorem gw283 : Cond.methodLink R_S 116 y_V_spread ∈ gG := List.mem_of_getElem? (i := 283) rfl
theorem gw284 : Cond.instanceMethod y_V_spread ∈ gG := List.mem_of_getElem? (i := 284) rfl
theorem gw285 : Cond.selects R_V y_V_spread y_V_spread ∈ gG := List.mem_of_getElem? (i := 285) rfl
theorem gw286 : Cond.code y_V_spread b_V_spread 3 none ∈ gG := List.mem_of_getElem? (i := 286) rfl
theorem gw287 : Cond.instanceMethod y_S_widen ∈ gG := List.mem_of_getElem? (i := 287) rfl
theorem gw288 : Cond.selects R_S y_S_widen y_S_widen ∈ gG := List.mem_of_getElem? (i := 288) rfl
theorem gw289 : Cond.code y_S_widen b_S_widen 4 none ∈ gG := List.mem_of_getElem? (i := 289) rfl
theorem gw290 : Cond.instanceMethod y_S_branch ∈ gG := List.mem_of_getElem? (i := 290) rfl
theorem gw291 : Cond.selects R_S y_S_branch y_S_branch ∈ gG := List.mem_of_getElem? (i := 291) rfl
theorem gw292 : Cond.code y_S_branch b_S_branch 5 (some .boolean) ∈ gG := List.mem_of_getElem? (i := 292) rfl
theorem gw293 : Cond.methodLink R_S 120 y_S_requireComparison ∈ gG := List.mem_of_getElem? (i := 293) rfl
theorem gw294 : Cond.static y_S_requireComparison ∈ gG := List.mem_of_getElem? (i := 294) rfl
theorem gw295 : Cond.code y_S_requireComparison b_S_requireComparison 3 none ∈ gG := List.mem_of_getElem? (i := 295) rfl
theorem gw296 : Cond.methodLink R_S 124 y_C_isSo ∈ gG := List.mem_of_getElem? (i := 296) rfl
theorem gw297 : Cond.static y_C_isSo ∈ gG := List.mem_of_getElem? (i := 297) rfl
theorem gw298 : Cond.code y_C_isSo b_C_isSo 5 (some .boolean) ∈ gG := List.mem_of_getElem? (i := 298) rfl
theorem gw299 : Cond.methodLink R_C 7 y_N_below ∈ gG := List.mem_of_getElem? (i := 299) rfl
theorem gw300 : Cond.methodLink R_S 130 y_C_opposite ∈ gG := List.mem_of_getElem? (i := 300) rfl
theorem gw301 : Cond.static y_C_opposite ∈ gG := List.mem_of_getElem? (i := 301) rfl
theorem gw302 : Cond.code y_C_opposite b_C_opposite 1 (some .int) ∈ gG := List.mem_of_getElem? (i := 302) rfl
theorem gw303 : Cond.methodLink R_S 134 y_C_refine ∈ gG := List.mem_of_getElem? (i := 303) rfl
theorem gw304 : Cond.static y_C_refine ∈ gG := List.mem_of_getElem? (i := 304) rfl
theorem gw305 : Cond.code y_C_refine b_C_refine 3 none ∈ gG := List.mem_of_getElem? (i := 305) rfl
theorem gw306 : Cond.methodLink R_C 15 y_C_equate ∈ gG := List.mem_of_getElem? (i := 306) rfl
theorem gw307 : Cond.static y_C_equate ∈ gG := List.mem_of_getElem? (i := 307) rfl
theorem gw308 : Cond.code y_C_equate b_C_equate 2 none ∈ gG := List.mem_of_getElem? (i := 308) rfl
theorem gw309 : Cond.constantLong R_C 52 (-1) ∈ gG := List.mem_of_getElem? (i := 309) rfl
theorem gw310 : Cond.methodLink R_C 58 y_V_sayBits ∈ gG := List.mem_of_getElem? (i := 310) rfl
theorem gw311 : Cond.methodLink R_C 65 y_N_more ∈ gG := List.mem_of_getElem? (i := 311) rfl
theorem gw312 : Cond.methodLink R_C 72 y_N_less ∈ gG := List.mem_of_getElem? (i := 312) rfl
theorem gw313 : Cond.methodLink R_C 75 y_V_sayUnsigned ∈ gG := List.mem_of_getElem? (i := 313) rfl
theorem gw314 : Cond.methodLink R_C 81 Lib.MathLoose.max_long.x ∈ gG := List.mem_of_getElem? (i := 314) rfl
theorem gw315 : Cond.methodLink R_C 89 Lib.MathLoose.min_long.x ∈ gG := List.mem_of_getElem? (i := 315) rfl
theorem gw316 : Cond.methodLink R_C 92 y_V_saySigned ∈ gG := List.mem_of_getElem? (i := 316) rfl
theorem gw317 : Cond.methodLink R_C 95 y_V_take ∈ gG := List.mem_of_getElem? (i := 317) rfl
theorem gw318 : Cond.methodLink R_C 19 y_C_part ∈ gG := List.mem_of_getElem? (i := 318) rfl
theorem gw319 : Cond.static y_C_part ∈ gG := List.mem_of_getElem? (i := 319) rfl
theorem gw320 : Cond.code y_C_part b_C_part 5 none ∈ gG := List.mem_of_getElem? (i := 320) rfl
theorem gw321 : Cond.methodLink R_C 99 y_V_isSingle ∈ gG := List.mem_of_getElem? (i := 321) rfl
theorem gw322 : Cond.methodLink R_C 103 y_C_leaveOut ∈ gG := List.mem_of_getElem? (i := 322) rfl
theorem gw323 : Cond.static y_C_leaveOut ∈ gG := List.mem_of_getElem? (i := 323) rfl
theorem gw324 : Cond.code y_C_leaveOut b_C_leaveOut 3 none ∈ gG := List.mem_of_getElem? (i := 324) rfl
theorem gw325 : Cond.methodLink R_C 22 y_C_orderStrictly ∈ gG := List.mem_of_getElem? (i := 325) rfl
theorem gw326 : Cond.static y_C_orderStrictly ∈ gG := List.mem_of_getElem? (i := 326) rfl
theorem gw327 : Cond.code y_C_orderStrictly b_C_orderStrictly 2 none ∈ gG := List.mem_of_getElem? (i := 327) rfl
theorem gw328 : Cond.methodLink R_C 25 y_C_order ∈ gG := List.mem_of_getElem? (i := 328) rfl
theorem gw329 : Cond.static y_C_order ∈ gG := List.mem_of_getElem? (i := 329) rfl
theorem gw330 : Cond.code y_C_order b_C_order 2 none ∈ gG := List.mem_of_getElem? (i := 330) rfl
theorem gw331 : Cond.methodLink R_C 28 y_C_orderSignedStrictly ∈ gG := List.mem_of_getElem? (i := 331) rfl
theorem gw332 : Cond.static y_C_orderSignedStrictly ∈ gG := List.mem_of_getElem? (i := 332) rfl
theorem gw333 : Cond.code y_C_orderSignedStrictly b_C_orderSignedStrictly 2 none ∈ gG := List.mem_of_getElem? (i := 333) rfl
theorem gw334 : Cond.constantLong R_C 109 (-9223372036854775808) ∈ gG := List.mem_of_getElem? (i := 334) rfl
theorem gw335 : Cond.constantLong R_C 111 (9223372036854775807) ∈ gG := List.mem_of_getElem? (i := 335) rfl
theorem gw336 : Cond.methodLink R_C 31 y_C_orderSigned ∈ gG := List.mem_of_getElem? (i := 336) rfl
theorem gw337 : Cond.static y_C_orderSigned ∈ gG := List.mem_of_getElem? (i := 337) rfl
theorem gw338 : Cond.code y_C_orderSigned b_C_orderSigned 2 none ∈ gG := List.mem_of_getElem? (i := 338) rfl
theorem gw339 : Cond.methodLink R_C 34 y_C_shareBit ∈ gG := List.mem_of_getElem? (i := 339) rfl
theorem gw340 : Cond.static y_C_shareBit ∈ gG := List.mem_of_getElem? (i := 340) rfl
theorem gw341 : Cond.code y_C_shareBit b_C_shareBit 5 none ∈ gG := List.mem_of_getElem? (i := 341) rfl
theorem gw342 : Cond.methodLink R_C 113 y_Lo_bitCount ∈ gG := List.mem_of_getElem? (i := 342) rfl
theorem gw343 : Cond.methodLink R_C 37 y_C_shareNoBit ∈ gG := List.mem_of_getElem? (i := 343) rfl
theorem gw344 : Cond.static y_C_shareNoBit ∈ gG := List.mem_of_getElem? (i := 344) rfl
theorem gw345 : Cond.code y_C_shareNoBit b_C_shareNoBit 3 none ∈ gG := List.mem_of_getElem? (i := 345) rfl
theorem gw346 : Cond.methodLink R_C 40 y_V_tighten ∈ gG := List.mem_of_getElem? (i := 346) rfl
theorem gw347 : Cond.instanceMethod y_S_decided ∈ gG := List.mem_of_getElem? (i := 347) rfl
theorem gw348 : Cond.selects R_S y_S_decided y_S_decided ∈ gG := List.mem_of_getElem? (i := 348) rfl
theorem gw349 : Cond.code y_S_decided b_S_decided 4 (some .int) ∈ gG := List.mem_of_getElem? (i := 349) rfl
theorem gw350 : Cond.methodLink R_S 138 y_S_canBe ∈ gG := List.mem_of_getElem? (i := 350) rfl
theorem gw351 : Cond.instanceMethod y_S_canBe ∈ gG := List.mem_of_getElem? (i := 351) rfl
theorem gw352 : Cond.code y_S_canBe b_S_canBe 4 (some .boolean) ∈ gG := List.mem_of_getElem? (i := 352) rfl
theorem gw353 : Cond.instanceMethod y_S_within ∈ gG := List.mem_of_getElem? (i := 353) rfl
theorem gw354 : Cond.selects R_S y_S_within y_S_within ∈ gG := List.mem_of_getElem? (i := 354) rfl
theorem gw355 : Cond.code y_S_within b_S_within 3 (some .boolean) ∈ gG := List.mem_of_getElem? (i := 355) rfl
theorem gw356 : Cond.methodLink R_S 142 y_V_covers ∈ gG := List.mem_of_getElem? (i := 356) rfl
theorem gw357 : Cond.instanceMethod y_V_covers ∈ gG := List.mem_of_getElem? (i := 357) rfl
theorem gw358 : Cond.selects R_V y_V_covers y_V_covers ∈ gG := List.mem_of_getElem? (i := 358) rfl
theorem gw359 : Cond.code y_V_covers b_V_covers 2 (some .boolean) ∈ gG := List.mem_of_getElem? (i := 359) rfl
theorem gw360 : Cond.instanceMethod y_S_has ∈ gG := List.mem_of_getElem? (i := 360) rfl
theorem gw361 : Cond.selects R_S y_S_has y_S_has ∈ gG := List.mem_of_getElem? (i := 361) rfl
theorem gw362 : Cond.code y_S_has b_S_has 4 (some .boolean) ∈ gG := List.mem_of_getElem? (i := 362) rfl
theorem gw363 : Cond.instanceMethod y_S_least ∈ gG := List.mem_of_getElem? (i := 363) rfl
theorem gw364 : Cond.selects R_S y_S_least y_S_least ∈ gG := List.mem_of_getElem? (i := 364) rfl
theorem gw365 : Cond.code y_S_least b_S_least 3 (some .long) ∈ gG := List.mem_of_getElem? (i := 365) rfl
theorem gw366 : Cond.instanceMethod y_S_greatest ∈ gG := List.mem_of_getElem? (i := 366) rfl
theorem gw367 : Cond.selects R_S y_S_greatest y_S_greatest ∈ gG := List.mem_of_getElem? (i := 367) rfl
theorem gw368 : Cond.code y_S_greatest b_S_greatest 3 (some .long) ∈ gG := List.mem_of_getElem? (i := 368) rfl
theorem gw369 : Cond.instanceMethod y_S_unknown ∈ gG := List.mem_of_getElem? (i := 369) rfl
theorem gw370 : Cond.selects R_S y_S_unknown y_S_unknown ∈ gG := List.mem_of_getElem? (i := 370) rfl
theorem gw371 : Cond.code y_S_unknown b_S_unknown 2 (some .long) ∈ gG := List.mem_of_getElem? (i := 371) rfl
theorem gw372 : Cond.instanceMethod y_S_witness ∈ gG := List.mem_of_getElem? (i := 372) rfl
theorem gw373 : Cond.selects R_S y_S_witness y_S_witness ∈ gG := List.mem_of_getElem? (i := 373) rfl
theorem gw374 : Cond.code y_S_witness b_S_witness 2 (some .long) ∈ gG := List.mem_of_getElem? (i := 374) rfl
theorem gw375 : Cond.arrayClass .boolean ∈ gG := List.mem_of_getElem? (i := 375) rfl
theorem gw376 : Cond.selects R_S y_S_canBe y_S_canBe ∈ gG := List.mem_of_getElem? (i := 376) rfl
theorem gw377 : Cond.selects R_S y_S_write y_S_write ∈ gG := List.mem_of_getElem? (i := 377) rfl
theorem gw378 : Cond.selects R_V y_V_sayStretch y_V_sayStretch ∈ gG := List.mem_of_getElem? (i := 378) rfl
theorem gw379 : Cond.selects R_V y_V_openBetween y_V_openBetween ∈ gG := List.mem_of_getElem? (i := 379) rfl
theorem gw380 : Cond.selects R_V y_V_firstOfHalf y_V_firstOfHalf ∈ gG := List.mem_of_getElem? (i := 380) rfl
theorem gw381 : Cond.selects R_V y_V_lastOfHalf y_V_lastOfHalf ∈ gG := List.mem_of_getElem? (i := 381) rfl
theorem uw_V : ∀ w ∈ u_ws R_V F_V 7, w ∈ gG := by decide +kernel
def w_S_init : List Cond := Cond.code y_S_init b_S_init 2 none :: gG
def w_S_any : List Cond := Cond.code y_S_any b_S_any 4 none :: gG
def w_S_constant : List Cond := Cond.code y_S_constant b_S_constant 4 none :: gG
def w_S_between : List Cond := Cond.code y_S_between b_S_between 9 none :: gG
def w_S_pattern : List Cond := Cond.code y_S_pattern b_S_pattern 8 none :: gG
def w_S_operate : List Cond := Cond.code y_S_operate b_S_operate 11 none :: gG
def w_S_cut : List Cond := Cond.code y_S_cut b_S_cut 4 none :: gG
def w_S_extend : List Cond := Cond.code y_S_extend b_S_extend 4 none :: gG
def w_S_swap : List Cond := Cond.code y_S_swap b_S_swap 4 none :: gG
def w_S_join : List Cond := Cond.code y_S_join b_S_join 5 none :: gG
def w_S_widen : List Cond := Cond.code y_S_widen b_S_widen 4 none :: gG
def w_S_branch : List Cond := Cond.code y_S_branch b_S_branch 5 (some .boolean) :: gG
def w_S_decided : List Cond := Cond.code y_S_decided b_S_decided 4 (some .int) :: gG
def w_S_within : List Cond := Cond.code y_S_within b_S_within 3 (some .boolean) :: gG
def w_S_has : List Cond := Cond.code y_S_has b_S_has 4 (some .boolean) :: gG
def w_S_least : List Cond := Cond.code y_S_least b_S_least 3 (some .long) :: gG
def w_S_greatest : List Cond := Cond.code y_S_greatest b_S_greatest 3 (some .long) :: gG
def w_S_unknown : List Cond := Cond.code y_S_unknown b_S_unknown 2 (some .long) :: gG
def w_S_witness : List Cond := Cond.code y_S_witness b_S_witness 2 (some .long) :: gG
def w_S_strays : List Cond := Cond.code y_S_strays b_S_strays 1 (some .int) :: gG
def w_S_requirePlace : List Cond := Cond.code y_S_requirePlace b_S_requirePlace 1 none :: gG
def w_S_requireComparison : List Cond := Cond.code y_S_requireComparison b_S_requireComparison 3 none :: gG
def w_S_canBe : List Cond := Cond.code y_S_canBe b_S_canBe 4 (some .boolean) :: gG
def w_S_write : List Cond := Cond.code y_S_write b_S_write 5 none :: gG
def w_C_isSo : List Cond := Cond.code y_C_isSo b_C_isSo 5 (some .boolean) :: gG
def w_C_opposite : List Cond := Cond.code y_C_opposite b_C_opposite 1 (some .int) :: gG
def w_C_refine : List Cond := Cond.code y_C_refine b_C_refine 3 none :: gG
def w_C_equate : List Cond := Cond.code y_C_equate b_C_equate 2 none :: gG
def w_C_part : List Cond := Cond.code y_C_part b_C_part 5 none :: gG
def w_C_leaveOut : List Cond := Cond.code y_C_leaveOut b_C_leaveOut 3 none :: gG
def w_C_orderStrictly : List Cond := Cond.code y_C_orderStrictly b_C_orderStrictly 2 none :: gG
def w_C_order : List Cond := Cond.code y_C_order b_C_order 2 none :: gG
def w_C_orderSignedStrictly : List Cond := Cond.code y_C_orderSignedStrictly b_C_orderSignedStrictly 2 none :: gG
def w_C_orderSigned : List Cond := Cond.code y_C_orderSigned b_C_orderSigned 2 none :: gG
def w_C_shareBit : List Cond := Cond.code y_C_shareBit b_C_shareBit 5 none :: gG
def w_C_shareNoBit : List Cond := Cond.code y_C_shareNoBit b_C_shareNoBit 3 none :: gG
def w_N_below : List Cond := Cond.code y_N_below b_N_below 4 (some .boolean) :: gG
def w_N_less : List Cond := Cond.code y_N_less b_N_less 4 (some .long) :: gG
def w_N_more : List Cond := Cond.code y_N_more b_N_more 4 (some .long) :: gG
def w_N_quotient : List Cond := Cond.code y_N_quotient b_N_quotient 6 (some .long) :: gG
def w_N_sumFits : List Cond := Cond.code y_N_sumFits b_N_sumFits 6 (some .boolean) :: gG
def w_N_differenceFits : List Cond := Cond.code y_N_differenceFits b_N_differenceFits 6 (some .boolean) :: gG
def w_N_productFits : List Cond := Cond.code y_N_productFits b_N_productFits 4 (some .boolean) :: gG
def w_N_unsignedProductFits : List Cond := Cond.code y_N_unsignedProductFits b_N_unsignedProductFits 4 (some .boolean) :: gG
def w_N_lowest : List Cond := Cond.code y_N_lowest b_N_lowest 1 (some .long) :: gG
def w_N_zerosAtEnd : List Cond := Cond.code y_N_zerosAtEnd b_N_zerosAtEnd 2 (some .int) :: gG
def w_N_upToHighest : List Cond := Cond.code y_N_upToHighest b_N_upToHighest 4 (some .long) :: gG
def w_N_firstFrom : List Cond := Cond.code y_N_firstFrom b_N_firstFrom 16 (some .long) :: gG
def w_N_trimmed : List Cond := Cond.code y_N_trimmed b_N_trimmed 3 (some .long) :: gG
def w_N_extended : List Cond := Cond.code y_N_extended b_N_extended 4 (some .long) :: gG
def w_N_turned : List Cond := Cond.code y_N_turned b_N_turned 6 (some .long) :: gG
def w_O_reckon : List Cond := Cond.code y_O_reckon b_O_reckon 7 (some .long) :: gG
def w_O_make : List Cond := Cond.code y_O_make b_O_make 5 none :: gG
def w_O_addition : List Cond := Cond.code y_O_addition b_O_addition 11 none :: gG
def w_O_subtraction : List Cond := Cond.code y_O_subtraction b_O_subtraction 7 none :: gG
def w_O_multiplication : List Cond := Cond.code y_O_multiplication b_O_multiplication 13 none :: gG
def w_O_knownBelow : List Cond := Cond.code y_O_knownBelow b_O_knownBelow 1 (some .int) :: gG
def w_O_zerosBelow : List Cond := Cond.code y_O_zerosBelow b_O_zerosBelow 1 (some .int) :: gG
def w_O_division : List Cond := Cond.code y_O_division b_O_division 3 none :: gG
def w_O_remainder : List Cond := Cond.code y_O_remainder b_O_remainder 3 none :: gG
def w_O_shift : List Cond := Cond.code y_O_shift b_O_shift 8 none :: gG
def w_O_shiftBy : List Cond := Cond.code y_O_shiftBy b_O_shiftBy 4 none :: gG
def w_V_init : List Cond := Cond.code y_V_init b_V_init 1 none :: gG
def w_V_take : List Cond := Cond.code y_V_take b_V_take 2 none :: gG
def w_V_sayAll : List Cond := Cond.code y_V_sayAll b_V_sayAll 1 none :: gG
def w_V_sayBits : List Cond := Cond.code y_V_sayBits b_V_sayBits 5 none :: gG
def w_V_sayUnsigned : List Cond := Cond.code y_V_sayUnsigned b_V_sayUnsigned 5 none :: gG
def w_V_saySigned : List Cond := Cond.code y_V_saySigned b_V_saySigned 5 none :: gG
def w_V_isSingle : List Cond := Cond.code y_V_isSingle b_V_isSingle 1 (some .boolean) :: gG
def w_V_holds : List Cond := Cond.code y_V_holds b_V_holds 3 (some .boolean) :: gG
def w_V_covers : List Cond := Cond.code y_V_covers b_V_covers 2 (some .boolean) :: gG
def w_V_tighten : List Cond := Cond.code y_V_tighten b_V_tighten 13 none :: gG
def w_V_sayStretch : List Cond := Cond.code y_V_sayStretch b_V_sayStretch 5 none :: gG
def w_V_openBetween : List Cond := Cond.code y_V_openBetween b_V_openBetween 5 (some .long) :: gG
def w_V_firstOfHalf : List Cond := Cond.code y_V_firstOfHalf b_V_firstOfHalf 5 (some .long) :: gG
def w_V_lastOfHalf : List Cond := Cond.code y_V_lastOfHalf b_V_lastOfHalf 9 (some .long) :: gG
def w_V_trim : List Cond := Cond.code y_V_trim b_V_trim 13 none :: gG
def w_V_signExtend : List Cond := Cond.code y_V_signExtend b_V_signExtend 12 none :: gG
def w_V_turnBytes : List Cond := Cond.code y_V_turnBytes b_V_turnBytes 6 none :: gG
def w_V_spread : List Cond := Cond.code y_V_spread b_V_spread 3 none :: gG
def w_Lo_bitCount : List Cond := Cond.code y_Lo_bitCount b_Lo_bitCount 2 (some .int) :: gG
