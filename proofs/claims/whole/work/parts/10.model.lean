/-! the model's words, its world: one object, rows in arrays -/
def gM : List Cond := [.initialized R_M, .instanceMethod objectInit, .code objectInit ⟨#[0xb1]⟩ 1 none, .arrayClass .long, .arrayClass .byte, .instantiable R_M 10, .instanceMethod y_M_init, .code y_M_init b_M_init 1 none, .methodLink R_M 1 objectInit, .fieldLink R_M 35 "ValueSieveModel" "code" "I", .fieldLink R_M 7 "ValueSieveModel" "bits" "[J", .fieldLink R_M 13 "ValueSieveModel" "open" "[J", .fieldLink R_M 16 "ValueSieveModel" "low" "[J", .fieldLink R_M 19 "ValueSieveModel" "high" "[J", .fieldLink R_M 22 "ValueSieveModel" "least" "[J", .fieldLink R_M 25 "ValueSieveModel" "greatest" "[J", .fieldLink R_M 28 "ValueSieveModel" "empty" "[Z", .fieldLink R_M 32 "ValueSieveModel" "witness" "[J", .fieldLink R_M 87 "ValueSieveModel" "strays" "I", .lays R_M "ValueSieveModel" "code" "I", .laysFinal R_M "ValueSieveModel" "bits" "[J", .laysFinal R_M "ValueSieveModel" "open" "[J", .laysFinal R_M "ValueSieveModel" "low" "[J", .laysFinal R_M "ValueSieveModel" "high" "[J", .laysFinal R_M "ValueSieveModel" "least" "[J", .laysFinal R_M "ValueSieveModel" "greatest" "[J", .laysFinal R_M "ValueSieveModel" "empty" "[Z", .laysFinal R_M "ValueSieveModel" "witness" "[J", .lays R_M "ValueSieveModel" "strays" "I", .arrayClass .boolean, .instanceMethod y_M_thrown, .selects R_M y_M_thrown y_M_thrown, .code y_M_thrown b_M_thrown 1 (some .int), .instanceMethod y_M_any, .selects R_M y_M_any y_M_any, .code y_M_any b_M_any 4 none, .methodLink R_M 98 y_M_noPlace, .instanceMethod y_M_noPlace, .code y_M_noPlace b_M_noPlace 4 (some .boolean), .methodLink R_M 102 y_M_nothingSaid, .instanceMethod y_M_nothingSaid, .code y_M_nothingSaid b_M_nothingSaid 2 none, .constantLong R_M 49 (-1), .constantLong R_M 54 (-9223372036854775808), .constantLong R_M 56 (9223372036854775807), .methodLink R_M 105 y_M_put, .instanceMethod y_M_put, .code y_M_put b_M_put 5 none, .methodLink R_M 90 y_M_copy, .instanceMethod y_M_copy, .code y_M_copy b_M_copy 3 none, .methodLink R_M 94 y_M_look, .instanceMethod y_M_look, .code y_M_look b_M_look 2 none, .methodLink R_M 83 y_M_isNumber, .instanceMethod y_M_isNumber, .code y_M_isNumber b_M_isNumber 4 (some .boolean), .methodLink R_M 39 y_M_below, .static y_M_below, .code y_M_below b_M_below 4 (some .boolean), .instanceMethod y_M_constant, .selects R_M y_M_constant y_M_constant, .code y_M_constant b_M_constant 4 none, .methodLink R_M 109 y_M_single, .instanceMethod y_M_single, .code y_M_single b_M_single 4 none, .instanceMethod y_M_between, .selects R_M y_M_between y_M_between, .code y_M_between b_M_between 9 none, .methodLink R_M 113 y_M_tighten, .instanceMethod y_M_tighten, .code y_M_tighten b_M_tighten 21 none, .methodLink R_M 79 y_M_hasAny, .instanceMethod y_M_hasAny, .code y_M_hasAny b_M_hasAny 6 (some .boolean), .methodLink R_M 75 y_M_has1, .instanceMethod y_M_has1, .code y_M_has1 b_M_has1 11 (some .boolean), .methodLink R_M 71 y_M_end_, .instanceMethod y_M_end_, .code y_M_end_ b_M_end_ 14 (some .long), .methodLink R_M 58 y_M_larger, .static y_M_larger, .code y_M_larger b_M_larger 4 (some .long), .methodLink R_M 61 y_M_lesser, .static y_M_lesser, .code y_M_lesser b_M_lesser 4 (some .long), .methodLink R_M 64 y_M_upFrom, .static y_M_upFrom, .code y_M_upFrom b_M_upFrom 13 (some .long), .methodLink R_M 68 y_M_downFrom, .static y_M_downFrom, .code y_M_downFrom b_M_downFrom 13 (some .long), .instanceMethod y_M_pattern, .selects R_M y_M_pattern y_M_pattern, .code y_M_pattern b_M_pattern 8 none, .instanceMethod y_M_cut, .selects R_M y_M_cut y_M_cut, .code y_M_cut b_M_cut 4 none, .methodLink R_M 120 y_M_cutRow, .instanceMethod y_M_cutRow, .code y_M_cutRow b_M_cutRow 6 none, .methodLink R_M 116 y_M_mask, .static y_M_mask, .code y_M_mask b_M_mask 1 (some .long), .instanceMethod y_M_extend, .selects R_M y_M_extend y_M_extend, .code y_M_extend b_M_extend 4 none, .methodLink R_M 130 y_M_extendRow, .instanceMethod y_M_extendRow, .code y_M_extendRow b_M_extendRow 14 none, .instanceMethod y_M_swap, .selects R_M y_M_swap y_M_swap, .code y_M_swap b_M_swap 4 none, .methodLink R_M 133 y_M_swapRow, .instanceMethod y_M_swapRow, .code y_M_swapRow b_M_swapRow 4 none, .methodLink R_M 126 y_M_swapped, .static y_M_swapped, .code y_M_swapped b_M_swapped 6 (some .long), .constantLong R_M 124 (255), .instanceMethod y_M_operate, .selects R_M y_M_operate y_M_operate, .code y_M_operate b_M_operate 8 none, .methodLink R_M 199 y_M_apply, .instanceMethod y_M_apply, .code y_M_apply b_M_apply 3 none, .methodLink R_M 163 y_M_add, .instanceMethod y_M_add, .code y_M_add b_M_add 3 none, .methodLink R_M 139 y_M_sumBits, .instanceMethod y_M_sumBits, .code y_M_sumBits b_M_sumBits 19 none, .methodLink R_M 136 y_M_mayBe, .instanceMethod y_M_mayBe, .code y_M_mayBe b_M_mayBe 4 (some .boolean), .methodLink R_M 143 y_M_sumIsLong, .static y_M_sumIsLong, .code y_M_sumIsLong b_M_sumIsLong 6 (some .boolean), .methodLink R_M 166 y_M_subtract, .instanceMethod y_M_subtract, .code y_M_subtract b_M_subtract 3 none, .methodLink R_M 146 y_M_differenceIsLong, .static y_M_differenceIsLong, .code y_M_differenceIsLong b_M_differenceIsLong 6 (some .boolean), .methodLink R_M 169 y_M_multiply, .instanceMethod y_M_multiply, .code y_M_multiply b_M_multiply 15 none, .methodLink R_M 149 y_M_lowest, .instanceMethod y_M_lowest, .code y_M_lowest b_M_lowest 4 (some .int), .methodLink R_M 153 y_M_knowLowest, .instanceMethod y_M_knowLowest, .code y_M_knowLowest b_M_knowLowest 6 none, .methodLink R_M 51 y_M_fits, .static y_M_fits, .code y_M_fits b_M_fits 4 (some .boolean), .methodLink R_M 45 y_M_quotient, .static y_M_quotient, .code y_M_quotient b_M_quotient 10 (some .long), .constantLong R_M 43 (2), .methodLink R_M 156 y_M_isLong, .static y_M_isLong, .code y_M_isLong b_M_isLong 11 (some .boolean), .methodLink R_M 172 y_M_divide, .instanceMethod y_M_divide, .code y_M_divide b_M_divide 1 none, .methodLink R_M 175 y_M_remain, .instanceMethod y_M_remain, .code y_M_remain b_M_remain 1 none, .methodLink R_M 178 y_M_and_, .instanceMethod y_M_and_, .code y_M_and_ b_M_and_ 3 none, .methodLink R_M 181 y_M_or_, .instanceMethod y_M_or_, .code y_M_or_ b_M_or_ 1 none, .methodLink R_M 184 y_M_xor_, .instanceMethod y_M_xor_, .code y_M_xor_ b_M_xor_ 1 none, .methodLink R_M 187 y_M_left, .instanceMethod y_M_left, .code y_M_left b_M_left 3 none, .methodLink R_M 159 y_M_isSingle, .instanceMethod y_M_isSingle, .code y_M_isSingle b_M_isSingle 2 (some .boolean), .methodLink R_M 190 y_M_right, .instanceMethod y_M_right, .code y_M_right b_M_right 3 none, .methodLink R_M 193 y_M_signedRight, .instanceMethod y_M_signedRight, .code y_M_signedRight b_M_signedRight 9 none, .methodLink R_M 202 y_M_reckon, .static y_M_reckon, .code y_M_reckon b_M_reckon 7 (some .long), .methodLink R_M 196 y_M_rest, .static y_M_rest, .code y_M_rest b_M_rest 4 (some .long), .constantLong R_M 206 (4294967295), .instanceMethod y_M_join, .selects R_M y_M_join y_M_join, .code y_M_join b_M_join 5 none, .methodLink R_M 208 y_M_joinBits, .instanceMethod y_M_joinBits, .code y_M_joinBits b_M_joinBits 5 none, .instanceMethod y_M_widen, .selects R_M y_M_widen y_M_widen, .code y_M_widen b_M_widen 4 none, .instanceMethod y_M_branch, .selects R_M y_M_branch y_M_branch, .code y_M_branch b_M_branch 5 (some .boolean), .methodLink R_M 236 y_M_noComparison, .instanceMethod y_M_noComparison, .code y_M_noComparison b_M_noComparison 4 (some .boolean), .methodLink R_M 239 y_M_isSo, .static y_M_isSo, .code y_M_isSo b_M_isSo 5 (some .boolean), .methodLink R_M 242 y_M_opposite, .static y_M_opposite, .code y_M_opposite b_M_opposite 1 (some .int), .methodLink R_M 246 y_M_canBe, .instanceMethod y_M_canBe, .code y_M_canBe b_M_canBe 4 (some .boolean), .methodLink R_M 233 y_M_refine, .instanceMethod y_M_refine, .code y_M_refine b_M_refine 2 none, .methodLink R_M 211 y_M_both, .instanceMethod y_M_both, .code y_M_both b_M_both 5 none, .methodLink R_M 214 y_M_lose, .instanceMethod y_M_lose, .code y_M_lose b_M_lose 5 none, .methodLink R_M 218 y_M_order, .instanceMethod y_M_order, .code y_M_order b_M_order 8 none, .methodLink R_M 222 y_M_orderLongs, .instanceMethod y_M_orderLongs, .code y_M_orderLongs b_M_orderLongs 12 none, .methodLink R_M 225 y_M_isOneBit, .static y_M_isOneBit, .code y_M_isOneBit b_M_isOneBit 2 (some .boolean), .methodLink R_M 229 y_M_force, .instanceMethod y_M_force, .code y_M_force b_M_force 6 none, .instanceMethod y_M_decided, .selects R_M y_M_decided y_M_decided, .code y_M_decided b_M_decided 4 (some .int), .instanceMethod y_M_within, .selects R_M y_M_within y_M_within, .code y_M_within b_M_within 4 (some .boolean), .instanceMethod y_M_has0, .selects R_M y_M_has0 y_M_has0, .code y_M_has0 b_M_has0 4 (some .boolean), .instanceMethod y_M_least, .selects R_M y_M_least y_M_least, .code y_M_least b_M_least 3 (some .long), .instanceMethod y_M_greatest, .selects R_M y_M_greatest y_M_greatest, .code y_M_greatest b_M_greatest 3 (some .long), .instanceMethod y_M_unknown, .selects R_M y_M_unknown y_M_unknown, .code y_M_unknown b_M_unknown 2 (some .long), .instanceMethod y_M_witness, .selects R_M y_M_witness y_M_witness, .code y_M_witness b_M_witness 2 (some .long), .instanceMethod y_M_strays, .selects R_M y_M_strays y_M_strays, .code y_M_strays b_M_strays 1 (some .int), .selects R_M y_M_nothingSaid y_M_nothingSaid, .selects R_M y_M_copy y_M_copy, .selects R_M y_M_isNumber y_M_isNumber, .selects R_M y_M_isSingle y_M_isSingle, .selects R_M y_M_end_ y_M_end_, .selects R_M y_M_has1 y_M_has1, .selects R_M y_M_hasAny y_M_hasAny, .selects R_M y_M_tighten y_M_tighten, .selects R_M y_M_single y_M_single, .selects R_M y_M_noPlace y_M_noPlace, .selects R_M y_M_look y_M_look, .selects R_M y_M_put y_M_put, .selects R_M y_M_cutRow y_M_cutRow, .selects R_M y_M_extendRow y_M_extendRow, .selects R_M y_M_swapRow y_M_swapRow, .selects R_M y_M_mayBe y_M_mayBe, .selects R_M y_M_sumBits y_M_sumBits, .selects R_M y_M_add y_M_add, .selects R_M y_M_subtract y_M_subtract, .selects R_M y_M_lowest y_M_lowest, .selects R_M y_M_knowLowest y_M_knowLowest, .selects R_M y_M_multiply y_M_multiply, .selects R_M y_M_divide y_M_divide, .selects R_M y_M_remain y_M_remain, .selects R_M y_M_and_ y_M_and_, .selects R_M y_M_or_ y_M_or_, .selects R_M y_M_xor_ y_M_xor_, .selects R_M y_M_left y_M_left, .selects R_M y_M_right y_M_right, .selects R_M y_M_signedRight y_M_signedRight, .selects R_M y_M_apply y_M_apply, .selects R_M y_M_joinBits y_M_joinBits, .selects R_M y_M_both y_M_both, .selects R_M y_M_lose y_M_lose, .selects R_M y_M_order y_M_order, .selects R_M y_M_orderLongs y_M_orderLongs, .selects R_M y_M_force y_M_force, .selects R_M y_M_refine y_M_refine, .selects R_M y_M_canBe y_M_canBe, .selects R_M y_M_noComparison y_M_noComparison]
set_option maxRecDepth 20000 in
theorem gMood : GoodIn gM gM := goodIn_self _ (by decide +kernel)
theorem gx0 : Cond.initialized R_M ∈ gM := List.mem_of_getElem? (i := 0) rfl
theorem gx1 : Cond.instanceMethod objectInit ∈ gM := List.mem_of_getElem? (i := 1) rfl
theorem gx2 : Cond.code objectInit ⟨#[0xb1]⟩ 1 none ∈ gM := List.mem_of_getElem? (i := 2) rfl
theorem gx3 : Cond.arrayClass .long ∈ gM := List.mem_of_getElem? (i := 3) rfl
theorem gx4 : Cond.arrayClass .byte ∈ gM := List.mem_of_getElem? (i := 4) rfl
theorem gx5 : Cond.instantiable R_M 10 ∈ gM := List.mem_of_getElem? (i := 5) rfl
theorem gx6 : Cond.instanceMethod y_M_init ∈ gM := List.mem_of_getElem? (i := 6) rfl
theorem gx7 : Cond.code y_M_init b_M_init 1 none ∈ gM := List.mem_of_getElem? (i := 7) rfl
theorem gx8 : Cond.methodLink R_M 1 objectInit ∈ gM := List.mem_of_getElem? (i := 8) rfl
theorem gx9 : Cond.fieldLink R_M 35 "ValueSieveModel" "code" "I" ∈ gM := List.mem_of_getElem? (i := 9) rfl
theorem gx10 : Cond.fieldLink R_M 7 "ValueSieveModel" "bits" "[J" ∈ gM := List.mem_of_getElem? (i := 10) rfl
theorem gx11 : Cond.fieldLink R_M 13 "ValueSieveModel" "open" "[J" ∈ gM := List.mem_of_getElem? (i := 11) rfl
theorem gx12 : Cond.fieldLink R_M 16 "ValueSieveModel" "low" "[J" ∈ gM := List.mem_of_getElem? (i := 12) rfl
theorem gx13 : Cond.fieldLink R_M 19 "ValueSieveModel" "high" "[J" ∈ gM := List.mem_of_getElem? (i := 13) rfl
theorem gx14 : Cond.fieldLink R_M 22 "ValueSieveModel" "least" "[J" ∈ gM := List.mem_of_getElem? (i := 14) rfl
theorem gx15 : Cond.fieldLink R_M 25 "ValueSieveModel" "greatest" "[J" ∈ gM := List.mem_of_getElem? (i := 15) rfl
theorem gx16 : Cond.fieldLink R_M 28 "ValueSieveModel" "empty" "[Z" ∈ gM := List.mem_of_getElem? (i := 16) rfl
theorem gx17 : Cond.fieldLink R_M 32 "ValueSieveModel" "witness" "[J" ∈ gM := List.mem_of_getElem? (i := 17) rfl
theorem gx18 : Cond.fieldLink R_M 87 "ValueSieveModel" "strays" "I" ∈ gM := List.mem_of_getElem? (i := 18) rfl
theorem gx19 : Cond.lays R_M "ValueSieveModel" "code" "I" ∈ gM := List.mem_of_getElem? (i := 19) rfl
theorem gx20 : Cond.laysFinal R_M "ValueSieveModel" "bits" "[J" ∈ gM := List.mem_of_getElem? (i := 20) rfl
theorem gx21 : Cond.laysFinal R_M "ValueSieveModel" "open" "[J" ∈ gM := List.mem_of_getElem? (i := 21) rfl
theorem gx22 : Cond.laysFinal R_M "ValueSieveModel" "low" "[J" ∈ gM := List.mem_of_getElem? (i := 22) rfl
theorem gx23 : Cond.laysFinal R_M "ValueSieveModel" "high" "[J" ∈ gM := List.mem_of_getElem? (i := 23) rfl
theorem gx24 : Cond.laysFinal R_M "ValueSieveModel" "least" "[J" ∈ gM := List.mem_of_getElem? (i := 24) rfl
theorem gx25 : Cond.laysFinal R_M "ValueSieveModel" "greatest" "[J" ∈ gM := List.mem_of_getElem? (i := 25) rfl
theorem gx26 : Cond.laysFinal R_M "ValueSieveModel" "empty" "[Z" ∈ gM := List.mem_of_getElem? (i := 26) rfl
theorem gx27 : Cond.laysFinal R_M "ValueSieveModel" "witness" "[J" ∈ gM := List.mem_of_getElem? (i := 27) rfl
theorem gx28 : Cond.lays R_M "ValueSieveModel" "strays" "I" ∈ gM := List.mem_of_getElem? (i := 28) rfl
theorem gx29 : Cond.arrayClass .boolean ∈ gM := List.mem_of_getElem? (i := 29) rfl
theorem gx30 : Cond.instanceMethod y_M_thrown ∈ gM := List.mem_of_getElem? (i := 30) rfl
theorem gx31 : Cond.selects R_M y_M_thrown y_M_thrown ∈ gM := List.mem_of_getElem? (i := 31) rfl
theorem gx32 : Cond.code y_M_thrown b_M_thrown 1 (some .int) ∈ gM := List.mem_of_getElem? (i := 32) rfl
theorem gx33 : Cond.instanceMethod y_M_any ∈ gM := List.mem_of_getElem? (i := 33) rfl
theorem gx34 : Cond.selects R_M y_M_any y_M_any ∈ gM := List.mem_of_getElem? (i := 34) rfl
theorem gx35 : Cond.code y_M_any b_M_any 4 none ∈ gM := List.mem_of_getElem? (i := 35) rfl
theorem gx36 : Cond.methodLink R_M 98 y_M_noPlace ∈ gM := List.mem_of_getElem? (i := 36) rfl
theorem gx37 : Cond.instanceMethod y_M_noPlace ∈ gM := List.mem_of_getElem? (i := 37) rfl
theorem gx38 : Cond.code y_M_noPlace b_M_noPlace 4 (some .boolean) ∈ gM := List.mem_of_getElem? (i := 38) rfl
theorem gx39 : Cond.methodLink R_M 102 y_M_nothingSaid ∈ gM := List.mem_of_getElem? (i := 39) rfl
theorem gx40 : Cond.instanceMethod y_M_nothingSaid ∈ gM := List.mem_of_getElem? (i := 40) rfl
theorem gx41 : Cond.code y_M_nothingSaid b_M_nothingSaid 2 none ∈ gM := List.mem_of_getElem? (i := 41) rfl
theorem gx42 : Cond.constantLong R_M 49 (-1) ∈ gM := List.mem_of_getElem? (i := 42) rfl
theorem gx43 : Cond.constantLong R_M 54 (-9223372036854775808) ∈ gM := List.mem_of_getElem? (i := 43) rfl
theorem gx44 : Cond.constantLong R_M 56 (9223372036854775807) ∈ gM := List.mem_of_getElem? (i := 44) rfl
theorem gx45 : Cond.methodLink R_M 105 y_M_put ∈ gM := List.mem_of_getElem? (i := 45) rfl
theorem gx46 : Cond.instanceMethod y_M_put ∈ gM := List.mem_of_getElem? (i := 46) rfl
theorem gx47 : Cond.code y_M_put b_M_put 5 none ∈ gM := List.mem_of_getElem? (i := 47) rfl
theorem gx48 : Cond.methodLink R_M 90 y_M_copy ∈ gM := List.mem_of_getElem? (i := 48) rfl
theorem gx49 : Cond.instanceMethod y_M_copy ∈ gM := List.mem_of_getElem? (i := 49) rfl
theorem gx50 : Cond.code y_M_copy b_M_copy 3 none ∈ gM := List.mem_of_getElem? (i := 50) rfl
theorem gx51 : Cond.methodLink R_M 94 y_M_look ∈ gM := List.mem_of_getElem? (i := 51) rfl
theorem gx52 : Cond.instanceMethod y_M_look ∈ gM := List.mem_of_getElem? (i := 52) rfl
theorem gx53 : Cond.code y_M_look b_M_look 2 none ∈ gM := List.mem_of_getElem? (i := 53) rfl
theorem gx54 : Cond.methodLink R_M 83 y_M_isNumber ∈ gM := List.mem_of_getElem? (i := 54) rfl
theorem gx55 : Cond.instanceMethod y_M_isNumber ∈ gM := List.mem_of_getElem? (i := 55) rfl
theorem gx56 : Cond.code y_M_isNumber b_M_isNumber 4 (some .boolean) ∈ gM := List.mem_of_getElem? (i := 56) rfl
theorem gx57 : Cond.methodLink R_M 39 y_M_below ∈ gM := List.mem_of_getElem? (i := 57) rfl
theorem gx58 : Cond.static y_M_below ∈ gM := List.mem_of_getElem? (i := 58) rfl
theorem gx59 : Cond.code y_M_below b_M_below 4 (some .boolean) ∈ gM := List.mem_of_getElem? (i := 59) rfl
theorem gx60 : Cond.instanceMethod y_M_constant ∈ gM := List.mem_of_getElem? (i := 60) rfl
theorem gx61 : Cond.selects R_M y_M_constant y_M_constant ∈ gM := List.mem_of_getElem? (i := 61) rfl
theorem gx62 : Cond.code y_M_constant b_M_constant 4 none ∈ gM := List.mem_of_getElem? (i := 62) rfl
theorem gx63 : Cond.methodLink R_M 109 y_M_single ∈ gM := List.mem_of_getElem? (i := 63) rfl
theorem gx64 : Cond.instanceMethod y_M_single ∈ gM := List.mem_of_getElem? (i := 64) rfl
theorem gx65 : Cond.code y_M_single b_M_single 4 none ∈ gM := List.mem_of_getElem? (i := 65) rfl
theorem gx66 : Cond.instanceMethod y_M_between ∈ gM := List.mem_of_getElem? (i := 66) rfl
theorem gx67 : Cond.selects R_M y_M_between y_M_between ∈ gM := List.mem_of_getElem? (i := 67) rfl
theorem gx68 : Cond.code y_M_between b_M_between 9 none ∈ gM := List.mem_of_getElem? (i := 68) rfl
theorem gx69 : Cond.methodLink R_M 113 y_M_tighten ∈ gM := List.mem_of_getElem? (i := 69) rfl
theorem gx70 : Cond.instanceMethod y_M_tighten ∈ gM := List.mem_of_getElem? (i := 70) rfl
theorem gx71 : Cond.code y_M_tighten b_M_tighten 21 none ∈ gM := List.mem_of_getElem? (i := 71) rfl
theorem gx72 : Cond.methodLink R_M 79 y_M_hasAny ∈ gM := List.mem_of_getElem? (i := 72) rfl
theorem gx73 : Cond.instanceMethod y_M_hasAny ∈ gM := List.mem_of_getElem? (i := 73) rfl
theorem gx74 : Cond.code y_M_hasAny b_M_hasAny 6 (some .boolean) ∈ gM := List.mem_of_getElem? (i := 74) rfl
theorem gx75 : Cond.methodLink R_M 75 y_M_has1 ∈ gM := List.mem_of_getElem? (i := 75) rfl
theorem gx76 : Cond.instanceMethod y_M_has1 ∈ gM := List.mem_of_getElem? (i := 76) rfl
theorem gx77 : Cond.code y_M_has1 b_M_has1 11 (some .boolean) ∈ gM := List.mem_of_getElem? (i := 77) rfl
theorem gx78 : Cond.methodLink R_M 71 y_M_end_ ∈ gM := List.mem_of_getElem? (i := 78) rfl
theorem gx79 : Cond.instanceMethod y_M_end_ ∈ gM := List.mem_of_getElem? (i := 79) rfl
theorem gx80 : Cond.code y_M_end_ b_M_end_ 14 (some .long) ∈ gM := List.mem_of_getElem? (i := 80) rfl
theorem gx81 : Cond.methodLink R_M 58 y_M_larger ∈ gM := List.mem_of_getElem? (i := 81) rfl
theorem gx82 : Cond.static y_M_larger ∈ gM := List.mem_of_getElem? (i := 82) rfl
theorem gx83 : Cond.code y_M_larger b_M_larger 4 (some .long) ∈ gM := List.mem_of_getElem? (i := 83) rfl
theorem gx84 : Cond.methodLink R_M 61 y_M_lesser ∈ gM := List.mem_of_getElem? (i := 84) rfl
theorem gx85 : Cond.static y_M_lesser ∈ gM := List.mem_of_getElem? (i := 85) rfl
theorem gx86 : Cond.code y_M_lesser b_M_lesser 4 (some .long) ∈ gM := List.mem_of_getElem? (i := 86) rfl
theorem gx87 : Cond.methodLink R_M 64 y_M_upFrom ∈ gM := List.mem_of_getElem? (i := 87) rfl
theorem gx88 : Cond.static y_M_upFrom ∈ gM := List.mem_of_getElem? (i := 88) rfl
theorem gx89 : Cond.code y_M_upFrom b_M_upFrom 13 (some .long) ∈ gM := List.mem_of_getElem? (i := 89) rfl
theorem gx90 : Cond.methodLink R_M 68 y_M_downFrom ∈ gM := List.mem_of_getElem? (i := 90) rfl
theorem gx91 : Cond.static y_M_downFrom ∈ gM := List.mem_of_getElem? (i := 91) rfl
theorem gx92 : Cond.code y_M_downFrom b_M_downFrom 13 (some .long) ∈ gM := List.mem_of_getElem? (i := 92) rfl
theorem gx93 : Cond.instanceMethod y_M_pattern ∈ gM := List.mem_of_getElem? (i := 93) rfl
theorem gx94 : Cond.selects R_M y_M_pattern y_M_pattern ∈ gM := List.mem_of_getElem? (i := 94) rfl
theorem gx95 : Cond.code y_M_pattern b_M_pattern 8 none ∈ gM := List.mem_of_getElem? (i := 95) rfl
theorem gx96 : Cond.instanceMethod y_M_cut ∈ gM := List.mem_of_getElem? (i := 96) rfl
theorem gx97 : Cond.selects R_M y_M_cut y_M_cut ∈ gM := List.mem_of_getElem? (i := 97) rfl
theorem gx98 : Cond.code y_M_cut b_M_cut 4 none ∈ gM := List.mem_of_getElem? (i := 98) rfl
theorem gx99 : Cond.methodLink R_M 120 y_M_cutRow ∈ gM := List.mem_of_getElem? (i := 99) rfl
theorem gx100 : Cond.instanceMethod y_M_cutRow ∈ gM := List.mem_of_getElem? (i := 100) rfl
theorem gx101 : Cond.code y_M_cutRow b_M_cutRow 6 none ∈ gM := List.mem_of_getElem? (i := 101) rfl
theorem gx102 : Cond.methodLink R_M 116 y_M_mask ∈ gM := List.mem_of_getElem? (i := 102) rfl
theorem gx103 : Cond.static y_M_mask ∈ gM := List.mem_of_getElem? (i := 103) rfl
theorem gx104 : Cond.code y_M_mask b_M_mask 1 (some .long) ∈ gM := List.mem_of_getElem? (i := 104) rfl
theorem gx105 : Cond.instanceMethod y_M_extend ∈ gM := List.mem_of_getElem? (i := 105) rfl
theorem gx106 : Cond.selects R_M y_M_extend y_M_extend ∈ gM := List.mem_of_getElem? (i := 106) rfl
theorem gx107 : Cond.code y_M_extend b_M_extend 4 none ∈ gM := List.mem_of_getElem? (i := 107) rfl
theorem gx108 : Cond.methodLink R_M 130 y_M_extendRow ∈ gM := List.mem_of_getElem? (i := 108) rfl
theorem gx109 : Cond.instanceMethod y_M_extendRow ∈ gM := List.mem_of_getElem? (i := 109) rfl
theorem gx110 : Cond.code y_M_extendRow b_M_extendRow 14 none ∈ gM := List.mem_of_getElem? (i := 110) rfl
theorem gx111 : Cond.instanceMethod y_M_swap ∈ gM := List.mem_of_getElem? (i := 111) rfl
theorem gx112 : Cond.selects R_M y_M_swap y_M_swap ∈ gM := List.mem_of_getElem? (i := 112) rfl
theorem gx113 : Cond.code y_M_swap b_M_swap 4 none ∈ gM := List.mem_of_getElem? (i := 113) rfl
theorem gx114 : Cond.methodLink R_M 133 y_M_swapRow ∈ gM := List.mem_of_getElem? (i := 114) rfl
theorem gx115 : Cond.instanceMethod y_M_swapRow ∈ gM := List.mem_of_getElem? (i := 115) rfl
theorem gx116 : Cond.code y_M_swapRow b_M_swapRow 4 none ∈ gM := List.mem_of_getElem? (i := 116) rfl
theorem gx117 : Cond.methodLink R_M 126 y_M_swapped ∈ gM := List.mem_of_getElem? (i := 117) rfl
theorem gx118 : Cond.static y_M_swapped ∈ gM := List.mem_of_getElem? (i := 118) rfl
theorem gx119 : Cond.code y_M_swapped b_M_swapped 6 (some .long) ∈ gM := List.mem_of_getElem? (i := 119) rfl
theorem gx120 : Cond.constantLong R_M 124 (255) ∈ gM := List.mem_of_getElem? (i := 120) rfl
theorem gx121 : Cond.instanceMethod y_M_operate ∈ gM := List.mem_of_getElem? (i := 121) rfl
theorem gx122 : Cond.selects R_M y_M_operate y_M_operate ∈ gM := List.mem_of_getElem? (i := 122) rfl
theorem gx123 : Cond.code y_M_operate b_M_operate 8 none ∈ gM := List.mem_of_getElem? (i := 123) rfl
theorem gx124 : Cond.methodLink R_M 199 y_M_apply ∈ gM := List.mem_of_getElem? (i := 124) rfl
theorem gx125 : Cond.instanceMethod y_M_apply ∈ gM := List.mem_of_getElem? (i := 125) rfl
theorem gx126 : Cond.code y_M_apply b_M_apply 3 none ∈ gM := List.mem_of_getElem? (i := 126) rfl
theorem gx127 : Cond.methodLink R_M 163 y_M_add ∈ gM := List.mem_of_getElem? (i := 127) rfl
theorem gx128 : Cond.instanceMethod y_M_add ∈ gM := List.mem_of_getElem? (i := 128) rfl
theorem gx129 : Cond.code y_M_add b_M_add 3 none ∈ gM := List.mem_of_getElem? (i := 129) rfl
theorem gx130 : Cond.methodLink R_M 139 y_M_sumBits ∈ gM := List.mem_of_getElem? (i := 130) rfl
theorem gx131 : Cond.instanceMethod y_M_sumBits ∈ gM := List.mem_of_getElem? (i := 131) rfl
theorem gx132 : Cond.code y_M_sumBits b_M_sumBits 19 none ∈ gM := List.mem_of_getElem? (i := 132) rfl
theorem gx133 : Cond.methodLink R_M 136 y_M_mayBe ∈ gM := List.mem_of_getElem? (i := 133) rfl
theorem gx134 : Cond.instanceMethod y_M_mayBe ∈ gM := List.mem_of_getElem? (i := 134) rfl
theorem gx135 : Cond.code y_M_mayBe b_M_mayBe 4 (some .boolean) ∈ gM := List.mem_of_getElem? (i := 135) rfl
theorem gx136 : Cond.methodLink R_M 143 y_M_sumIsLong ∈ gM := List.mem_of_getElem? (i := 136) rfl
theorem gx137 : Cond.static y_M_sumIsLong ∈ gM := List.mem_of_getElem? (i := 137) rfl
theorem gx138 : Cond.code y_M_sumIsLong b_M_sumIsLong 6 (some .boolean) ∈ gM := List.mem_of_getElem? (i := 138) rfl
theorem gx139 : Cond.methodLink R_M 166 y_M_subtract ∈ gM := List.mem_of_getElem? (i := 139) rfl
theorem gx140 : Cond.instanceMethod y_M_subtract ∈ gM := List.mem_of_getElem? (i := 140) rfl
theorem gx141 : Cond.code y_M_subtract b_M_subtract 3 none ∈ gM := List.mem_of_getElem? (i := 141) rfl
theorem gx142 : Cond.methodLink R_M 146 y_M_differenceIsLong ∈ gM := List.mem_of_getElem? (i := 142) rfl
theorem gx143 : Cond.static y_M_differenceIsLong ∈ gM := List.mem_of_getElem? (i := 143) rfl
theorem gx144 : Cond.code y_M_differenceIsLong b_M_differenceIsLong 6 (some .boolean) ∈ gM := List.mem_of_getElem? (i := 144) rfl
theorem gx145 : Cond.methodLink R_M 169 y_M_multiply ∈ gM := List.mem_of_getElem? (i := 145) rfl
theorem gx146 : Cond.instanceMethod y_M_multiply ∈ gM := List.mem_of_getElem? (i := 146) rfl
theorem gx147 : Cond.code y_M_multiply b_M_multiply 15 none ∈ gM := List.mem_of_getElem? (i := 147) rfl
theorem gx148 : Cond.methodLink R_M 149 y_M_lowest ∈ gM := List.mem_of_getElem? (i := 148) rfl
theorem gx149 : Cond.instanceMethod y_M_lowest ∈ gM := List.mem_of_getElem? (i := 149) rfl
theorem gx150 : Cond.code y_M_lowest b_M_lowest 4 (some .int) ∈ gM := List.mem_of_getElem? (i := 150) rfl
theorem gx151 : Cond.methodLink R_M 153 y_M_knowLowest ∈ gM := List.mem_of_getElem? (i := 151) rfl
theorem gx152 : Cond.instanceMethod y_M_knowLowest ∈ gM := List.mem_of_getElem? (i := 152) rfl
theorem gx153 : Cond.code y_M_knowLowest b_M_knowLowest 6 none ∈ gM := List.mem_of_getElem? (i := 153) rfl
theorem gx154 : Cond.methodLink R_M 51 y_M_fits ∈ gM := List.mem_of_getElem? (i := 154) rfl
theorem gx155 : Cond.static y_M_fits ∈ gM := List.mem_of_getElem? (i := 155) rfl
theorem gx156 : Cond.code y_M_fits b_M_fits 4 (some .boolean) ∈ gM := List.mem_of_getElem? (i := 156) rfl
theorem gx157 : Cond.methodLink R_M 45 y_M_quotient ∈ gM := List.mem_of_getElem? (i := 157) rfl
theorem gx158 : Cond.static y_M_quotient ∈ gM := List.mem_of_getElem? (i := 158) rfl
theorem gx159 : Cond.code y_M_quotient b_M_quotient 10 (some .long) ∈ gM := List.mem_of_getElem? (i := 159) rfl
theorem gx160 : Cond.constantLong R_M 43 (2) ∈ gM := List.mem_of_getElem? (i := 160) rfl
theorem gx161 : Cond.methodLink R_M 156 y_M_isLong ∈ gM := List.mem_of_getElem? (i := 161) rfl
theorem gx162 : Cond.static y_M_isLong ∈ gM := List.mem_of_getElem? (i := 162) rfl
theorem gx163 : Cond.code y_M_isLong b_M_isLong 11 (some .boolean) ∈ gM := List.mem_of_getElem? (i := 163) rfl
theorem gx164 : Cond.methodLink R_M 172 y_M_divide ∈ gM := List.mem_of_getElem? (i := 164) rfl
theorem gx165 : Cond.instanceMethod y_M_divide ∈ gM := List.mem_of_getElem? (i := 165) rfl
theorem gx166 : Cond.code y_M_divide b_M_divide 1 none ∈ gM := List.mem_of_getElem? (i := 166) rfl
theorem gx167 : Cond.methodLink R_M 175 y_M_remain ∈ gM := List.mem_of_getElem? (i := 167) rfl
theorem gx168 : Cond.instanceMethod y_M_remain ∈ gM := List.mem_of_getElem? (i := 168) rfl
theorem gx169 : Cond.code y_M_remain b_M_remain 1 none ∈ gM := List.mem_of_getElem? (i := 169) rfl
theorem gx170 : Cond.methodLink R_M 178 y_M_and_ ∈ gM := List.mem_of_getElem? (i := 170) rfl
theorem gx171 : Cond.instanceMethod y_M_and_ ∈ gM := List.mem_of_getElem? (i := 171) rfl
theorem gx172 : Cond.code y_M_and_ b_M_and_ 3 none ∈ gM := List.mem_of_getElem? (i := 172) rfl
theorem gx173 : Cond.methodLink R_M 181 y_M_or_ ∈ gM := List.mem_of_getElem? (i := 173) rfl
theorem gx174 : Cond.instanceMethod y_M_or_ ∈ gM := List.mem_of_getElem? (i := 174) rfl
theorem gx175 : Cond.code y_M_or_ b_M_or_ 1 none ∈ gM := List.mem_of_getElem? (i := 175) rfl
theorem gx176 : Cond.methodLink R_M 184 y_M_xor_ ∈ gM := List.mem_of_getElem? (i := 176) rfl
theorem gx177 : Cond.instanceMethod y_M_xor_ ∈ gM := List.mem_of_getElem? (i := 177) rfl
theorem gx178 : Cond.code y_M_xor_ b_M_xor_ 1 none ∈ gM := List.mem_of_getElem? (i := 178) rfl
theorem gx179 : Cond.methodLink R_M 187 y_M_left ∈ gM := List.mem_of_getElem? (i := 179) rfl
theorem gx180 : Cond.instanceMethod y_M_left ∈ gM := List.mem_of_getElem? (i := 180) rfl
theorem gx181 : Cond.code y_M_left b_M_left 3 none ∈ gM := List.mem_of_getElem? (i := 181) rfl
theorem gx182 : Cond.methodLink R_M 159 y_M_isSingle ∈ gM := List.mem_of_getElem? (i := 182) rfl
theorem gx183 : Cond.instanceMethod y_M_isSingle ∈ gM := List.mem_of_getElem? (i := 183) rfl
theorem gx184 : Cond.code y_M_isSingle b_M_isSingle 2 (some .boolean) ∈ gM := List.mem_of_getElem? (i := 184) rfl
theorem gx185 : Cond.methodLink R_M 190 y_M_right ∈ gM := List.mem_of_getElem? (i := 185) rfl
theorem gx186 : Cond.instanceMethod y_M_right ∈ gM := List.mem_of_getElem? (i := 186) rfl
theorem gx187 : Cond.code y_M_right b_M_right 3 none ∈ gM := List.mem_of_getElem? (i := 187) rfl
theorem gx188 : Cond.methodLink R_M 193 y_M_signedRight ∈ gM := List.mem_of_getElem? (i := 188) rfl
theorem gx189 : Cond.instanceMethod y_M_signedRight ∈ gM := List.mem_of_getElem? (i := 189) rfl
theorem gx190 : Cond.code y_M_signedRight b_M_signedRight 9 none ∈ gM := List.mem_of_getElem? (i := 190) rfl
theorem gx191 : Cond.methodLink R_M 202 y_M_reckon ∈ gM := List.mem_of_getElem? (i := 191) rfl
theorem gx192 : Cond.static y_M_reckon ∈ gM := List.mem_of_getElem? (i := 192) rfl
theorem gx193 : Cond.code y_M_reckon b_M_reckon 7 (some .long) ∈ gM := List.mem_of_getElem? (i := 193) rfl
theorem gx194 : Cond.methodLink R_M 196 y_M_rest ∈ gM := List.mem_of_getElem? (i := 194) rfl
theorem gx195 : Cond.static y_M_rest ∈ gM := List.mem_of_getElem? (i := 195) rfl
theorem gx196 : Cond.code y_M_rest b_M_rest 4 (some .long) ∈ gM := List.mem_of_getElem? (i := 196) rfl
theorem gx197 : Cond.constantLong R_M 206 (4294967295) ∈ gM := List.mem_of_getElem? (i := 197) rfl
theorem gx198 : Cond.instanceMethod y_M_join ∈ gM := List.mem_of_getElem? (i := 198) rfl
theorem gx199 : Cond.selects R_M y_M_join y_M_join ∈ gM := List.mem_of_getElem? (i := 199) rfl
theorem gx200 : Cond.code y_M_join b_M_join 5 none ∈ gM := List.mem_of_getElem? (i := 200) rfl
theorem gx201 : Cond.methodLink R_M 208 y_M_joinBits ∈ gM := List.mem_of_getElem? (i := 201) rfl
theorem gx202 : Cond.instanceMethod y_M_joinBits ∈ gM := List.mem_of_getElem? (i := 202) rfl
theorem gx203 : Cond.code y_M_joinBits b_M_joinBits 5 none ∈ gM := List.mem_of_getElem? (i := 203) rfl
theorem gx204 : Cond.instanceMethod y_M_widen ∈ gM := List.mem_of_getElem? (i := 204) rfl
theorem gx205 : Cond.selects R_M y_M_widen y_M_widen ∈ gM := List.mem_of_getElem? (i := 205) rfl
theorem gx206 : Cond.code y_M_widen b_M_widen 4 none ∈ gM := List.mem_of_getElem? (i := 206) rfl
theorem gx207 : Cond.instanceMethod y_M_branch ∈ gM := List.mem_of_getElem? (i := 207) rfl
theorem gx208 : Cond.selects R_M y_M_branch y_M_branch ∈ gM := List.mem_of_getElem? (i := 208) rfl
theorem gx209 : Cond.code y_M_branch b_M_branch 5 (some .boolean) ∈ gM := List.mem_of_getElem? (i := 209) rfl
theorem gx210 : Cond.methodLink R_M 236 y_M_noComparison ∈ gM := List.mem_of_getElem? (i := 210) rfl
theorem gx211 : Cond.instanceMethod y_M_noComparison ∈ gM := List.mem_of_getElem? (i := 211) rfl
theorem gx212 : Cond.code y_M_noComparison b_M_noComparison 4 (some .boolean) ∈ gM := List.mem_of_getElem? (i := 212) rfl
theorem gx213 : Cond.methodLink R_M 239 y_M_isSo ∈ gM := List.mem_of_getElem? (i := 213) rfl
theorem gx214 : Cond.static y_M_isSo ∈ gM := List.mem_of_getElem? (i := 214) rfl
theorem gx215 : Cond.code y_M_isSo b_M_isSo 5 (some .boolean) ∈ gM := List.mem_of_getElem? (i := 215) rfl
theorem gx216 : Cond.methodLink R_M 242 y_M_opposite ∈ gM := List.mem_of_getElem? (i := 216) rfl
theorem gx217 : Cond.static y_M_opposite ∈ gM := List.mem_of_getElem? (i := 217) rfl
theorem gx218 : Cond.code y_M_opposite b_M_opposite 1 (some .int) ∈ gM := List.mem_of_getElem? (i := 218) rfl
theorem gx219 : Cond.methodLink R_M 246 y_M_canBe ∈ gM := List.mem_of_getElem? (i := 219) rfl
theorem gx220 : Cond.instanceMethod y_M_canBe ∈ gM := List.mem_of_getElem? (i := 220) rfl
theorem gx221 : Cond.code y_M_canBe b_M_canBe 4 (some .boolean) ∈ gM := List.mem_of_getElem? (i := 221) rfl
theorem gx222 : Cond.methodLink R_M 233 y_M_refine ∈ gM := List.mem_of_getElem? (i := 222) rfl
theorem gx223 : Cond.instanceMethod y_M_refine ∈ gM := List.mem_of_getElem? (i := 223) rfl
theorem gx224 : Cond.code y_M_refine b_M_refine 2 none ∈ gM := List.mem_of_getElem? (i := 224) rfl
theorem gx225 : Cond.methodLink R_M 211 y_M_both ∈ gM := List.mem_of_getElem? (i := 225) rfl
theorem gx226 : Cond.instanceMethod y_M_both ∈ gM := List.mem_of_getElem? (i := 226) rfl
theorem gx227 : Cond.code y_M_both b_M_both 5 none ∈ gM := List.mem_of_getElem? (i := 227) rfl
theorem gx228 : Cond.methodLink R_M 214 y_M_lose ∈ gM := List.mem_of_getElem? (i := 228) rfl
theorem gx229 : Cond.instanceMethod y_M_lose ∈ gM := List.mem_of_getElem? (i := 229) rfl
theorem gx230 : Cond.code y_M_lose b_M_lose 5 none ∈ gM := List.mem_of_getElem? (i := 230) rfl
theorem gx231 : Cond.methodLink R_M 218 y_M_order ∈ gM := List.mem_of_getElem? (i := 231) rfl
theorem gx232 : Cond.instanceMethod y_M_order ∈ gM := List.mem_of_getElem? (i := 232) rfl
theorem gx233 : Cond.code y_M_order b_M_order 8 none ∈ gM := List.mem_of_getElem? (i := 233) rfl
theorem gx234 : Cond.methodLink R_M 222 y_M_orderLongs ∈ gM := List.mem_of_getElem? (i := 234) rfl
theorem gx235 : Cond.instanceMethod y_M_orderLongs ∈ gM := List.mem_of_getElem? (i := 235) rfl
theorem gx236 : Cond.code y_M_orderLongs b_M_orderLongs 12 none ∈ gM := List.mem_of_getElem? (i := 236) rfl
theorem gx237 : Cond.methodLink R_M 225 y_M_isOneBit ∈ gM := List.mem_of_getElem? (i := 237) rfl
theorem gx238 : Cond.static y_M_isOneBit ∈ gM := List.mem_of_getElem? (i := 238) rfl
theorem gx239 : Cond.code y_M_isOneBit b_M_isOneBit 2 (some .boolean) ∈ gM := List.mem_of_getElem? (i := 239) rfl
theorem gx240 : Cond.methodLink R_M 229 y_M_force ∈ gM := List.mem_of_getElem? (i := 240) rfl
theorem gx241 : Cond.instanceMethod y_M_force ∈ gM := List.mem_of_getElem? (i := 241) rfl
theorem gx242 : Cond.code y_M_force b_M_force 6 none ∈ gM := List.mem_of_getElem? (i := 242) rfl
theorem gx243 : Cond.instanceMethod y_M_decided ∈ gM := List.mem_of_getElem? (i := 243) rfl
theorem gx244 : Cond.selects R_M y_M_decided y_M_decided ∈ gM := List.mem_of_getElem? (i := 244) rfl
theorem gx245 : Cond.code y_M_decided b_M_decided 4 (some .int) ∈ gM := List.mem_of_getElem? (i := 245) rfl
theorem gx246 : Cond.instanceMethod y_M_within ∈ gM := List.mem_of_getElem? (i := 246) rfl
theorem gx247 : Cond.selects R_M y_M_within y_M_within ∈ gM := List.mem_of_getElem? (i := 247) rfl
theorem gx248 : Cond.code y_M_within b_M_within 4 (some .boolean) ∈ gM := List.mem_of_getElem? (i := 248) rfl
theorem gx249 : Cond.instanceMethod y_M_has0 ∈ gM := List.mem_of_getElem? (i := 249) rfl
theorem gx250 : Cond.selects R_M y_M_has0 y_M_has0 ∈ gM := List.mem_of_getElem? (i := 250) rfl
theorem gx251 : Cond.code y_M_has0 b_M_has0 4 (some .boolean) ∈ gM := List.mem_of_getElem? (i := 251) rfl
theorem gx252 : Cond.instanceMethod y_M_least ∈ gM := List.mem_of_getElem? (i := 252) rfl
theorem gx253 : Cond.selects R_M y_M_least y_M_least ∈ gM := List.mem_of_getElem? (i := 253) rfl
theorem gx254 : Cond.code y_M_least b_M_least 3 (some .long) ∈ gM := List.mem_of_getElem? (i := 254) rfl
theorem gx255 : Cond.instanceMethod y_M_greatest ∈ gM := List.mem_of_getElem? (i := 255) rfl
theorem gx256 : Cond.selects R_M y_M_greatest y_M_greatest ∈ gM := List.mem_of_getElem? (i := 256) rfl
theorem gx257 : Cond.code y_M_greatest b_M_greatest 3 (some .long) ∈ gM := List.mem_of_getElem? (i := 257) rfl
theorem gx258 : Cond.instanceMethod y_M_unknown ∈ gM := List.mem_of_getElem? (i := 258) rfl
theorem gx259 : Cond.selects R_M y_M_unknown y_M_unknown ∈ gM := List.mem_of_getElem? (i := 259) rfl
theorem gx260 : Cond.code y_M_unknown b_M_unknown 2 (some .long) ∈ gM := List.mem_of_getElem? (i := 260) rfl
theorem gx261 : Cond.instanceMethod y_M_witness ∈ gM := List.mem_of_getElem? (i := 261) rfl
theorem gx262 : Cond.selects R_M y_M_witness y_M_witness ∈ gM := List.mem_of_getElem? (i := 262) rfl
theorem gx263 : Cond.code y_M_witness b_M_witness 2 (some .long) ∈ gM := List.mem_of_getElem? (i := 263) rfl
theorem gx264 : Cond.instanceMethod y_M_strays ∈ gM := List.mem_of_getElem? (i := 264) rfl
theorem gx265 : Cond.selects R_M y_M_strays y_M_strays ∈ gM := List.mem_of_getElem? (i := 265) rfl
theorem gx266 : Cond.code y_M_strays b_M_strays 1 (some .int) ∈ gM := List.mem_of_getElem? (i := 266) rfl
theorem gx267 : Cond.selects R_M y_M_nothingSaid y_M_nothingSaid ∈ gM := List.mem_of_getElem? (i := 267) rfl
theorem gx268 : Cond.selects R_M y_M_copy y_M_copy ∈ gM := List.mem_of_getElem? (i := 268) rfl
theorem gx269 : Cond.selects R_M y_M_isNumber y_M_isNumber ∈ gM := List.mem_of_getElem? (i := 269) rfl
theorem gx270 : Cond.selects R_M y_M_isSingle y_M_isSingle ∈ gM := List.mem_of_getElem? (i := 270) rfl
theorem gx271 : Cond.selects R_M y_M_end_ y_M_end_ ∈ gM := List.mem_of_getElem? (i := 271) rfl
theorem gx272 : Cond.selects R_M y_M_has1 y_M_has1 ∈ gM := List.mem_of_getElem? (i := 272) rfl
theorem gx273 : Cond.selects R_M y_M_hasAny y_M_hasAny ∈ gM := List.mem_of_getElem? (i := 273) rfl
theorem gx274 : Cond.selects R_M y_M_tighten y_M_tighten ∈ gM := List.mem_of_getElem? (i := 274) rfl
theorem gx275 : Cond.selects R_M y_M_single y_M_single ∈ gM := List.mem_of_getElem? (i := 275) rfl
theorem gx276 : Cond.selects R_M y_M_noPlace y_M_noPlace ∈ gM := List.mem_of_getElem? (i := 276) rfl
theorem gx277 : Cond.selects R_M y_M_look y_M_look ∈ gM := List.mem_of_getElem? (i := 277) rfl
theorem gx278 : Cond.selects R_M y_M_put y_M_put ∈ gM := List.mem_of_getElem? (i := 278) rfl
theorem gx279 : Cond.selects R_M y_M_cutRow y_M_cutRow ∈ gM := List.mem_of_getElem? (i := 279) rfl
theorem gx280 : Cond.selects R_M y_M_extendRow y_M_extendRow ∈ gM := List.mem_of_getElem? (i := 280) rfl
theorem gx281 : Cond.selects R_M y_M_swapRow y_M_swapRow ∈ gM := List.mem_of_getElem? (i := 281) rfl
theorem gx282 : Cond.selects R_M y_M_mayBe y_M_mayBe ∈ gM := List.mem_of_getElem? (i := 282) rfl
theorem gx283 : Cond.selects R_M y_M_sumBits y_M_sumBits ∈ gM := List.mem_of_getElem? (i := 283) rfl
theorem gx284 : Cond.selects R_M y_M_add y_M_add ∈ gM := List.mem_of_getElem? (i := 284) rfl
theorem gx285 : Cond.selects R_M y_M_subtract y_M_subtract ∈ gM := List.mem_of_getElem? (i := 285) rfl
theorem gx286 : Cond.selects R_M y_M_lowest y_M_lowest ∈ gM := List.mem_of_getElem? (i := 286) rfl
theorem gx287 : Cond.selects R_M y_M_knowLowest y_M_knowLowest ∈ gM := List.mem_of_getElem? (i := 287) rfl
theorem gx288 : Cond.selects R_M y_M_multiply y_M_multiply ∈ gM := List.mem_of_getElem? (i := 288) rfl
theorem gx289 : Cond.selects R_M y_M_divide y_M_divide ∈ gM := List.mem_of_getElem? (i := 289) rfl
theorem gx290 : Cond.selects R_M y_M_remain y_M_remain ∈ gM := List.mem_of_getElem? (i := 290) rfl
theorem gx291 : Cond.selects R_M y_M_and_ y_M_and_ ∈ gM := List.mem_of_getElem? (i := 291) rfl
theorem gx292 : Cond.selects R_M y_M_or_ y_M_or_ ∈ gM := List.mem_of_getElem? (i := 292) rfl
theorem gx293 : Cond.selects R_M y_M_xor_ y_M_xor_ ∈ gM := List.mem_of_getElem? (i := 293) rfl
theorem gx294 : Cond.selects R_M y_M_left y_M_left ∈ gM := List.mem_of_getElem? (i := 294) rfl
theorem gx295 : Cond.selects R_M y_M_right y_M_right ∈ gM := List.mem_of_getElem? (i := 295) rfl
theorem gx296 : Cond.selects R_M y_M_signedRight y_M_signedRight ∈ gM := List.mem_of_getElem? (i := 296) rfl
theorem gx297 : Cond.selects R_M y_M_apply y_M_apply ∈ gM := List.mem_of_getElem? (i := 297) rfl
theorem gx298 : Cond.selects R_M y_M_joinBits y_M_joinBits ∈ gM := List.mem_of_getElem? (i := 298) rfl
theorem gx299 : Cond.selects R_M y_M_both y_M_both ∈ gM := List.mem_of_getElem? (i := 299) rfl
theorem gx300 : Cond.selects R_M y_M_lose y_M_lose ∈ gM := List.mem_of_getElem? (i := 300) rfl
theorem gx301 : Cond.selects R_M y_M_order y_M_order ∈ gM := List.mem_of_getElem? (i := 301) rfl
theorem gx302 : Cond.selects R_M y_M_orderLongs y_M_orderLongs ∈ gM := List.mem_of_getElem? (i := 302) rfl
theorem gx303 : Cond.selects R_M y_M_force y_M_force ∈ gM := List.mem_of_getElem? (i := 303) rfl
theorem gx304 : Cond.selects R_M y_M_refine y_M_refine ∈ gM := List.mem_of_getElem? (i := 304) rfl
theorem gx305 : Cond.selects R_M y_M_canBe y_M_canBe ∈ gM := List.mem_of_getElem? (i := 305) rfl
theorem gx306 : Cond.selects R_M y_M_noComparison y_M_noComparison ∈ gM := List.mem_of_getElem? (i := 306) rfl
theorem uw_M : ∀ w ∈ u_ws R_M F_M 10, w ∈ gM := by decide +kernel
def w_M_init : List Cond := Cond.code y_M_init b_M_init 1 none :: gM
def w_M_thrown : List Cond := Cond.code y_M_thrown b_M_thrown 1 (some .int) :: gM
def w_M_below : List Cond := Cond.code y_M_below b_M_below 4 (some .boolean) :: gM
def w_M_lesser : List Cond := Cond.code y_M_lesser b_M_lesser 4 (some .long) :: gM
def w_M_larger : List Cond := Cond.code y_M_larger b_M_larger 4 (some .long) :: gM
def w_M_quotient : List Cond := Cond.code y_M_quotient b_M_quotient 10 (some .long) :: gM
def w_M_rest : List Cond := Cond.code y_M_rest b_M_rest 4 (some .long) :: gM
def w_M_fits : List Cond := Cond.code y_M_fits b_M_fits 4 (some .boolean) :: gM
def w_M_isLong : List Cond := Cond.code y_M_isLong b_M_isLong 11 (some .boolean) :: gM
def w_M_sumIsLong : List Cond := Cond.code y_M_sumIsLong b_M_sumIsLong 6 (some .boolean) :: gM
def w_M_differenceIsLong : List Cond := Cond.code y_M_differenceIsLong b_M_differenceIsLong 6 (some .boolean) :: gM
def w_M_nothingSaid : List Cond := Cond.code y_M_nothingSaid b_M_nothingSaid 2 none :: gM
def w_M_copy : List Cond := Cond.code y_M_copy b_M_copy 3 none :: gM
def w_M_isNumber : List Cond := Cond.code y_M_isNumber b_M_isNumber 4 (some .boolean) :: gM
def w_M_isSingle : List Cond := Cond.code y_M_isSingle b_M_isSingle 2 (some .boolean) :: gM
def w_M_upFrom : List Cond := Cond.code y_M_upFrom b_M_upFrom 13 (some .long) :: gM
def w_M_downFrom : List Cond := Cond.code y_M_downFrom b_M_downFrom 13 (some .long) :: gM
def w_M_end_ : List Cond := Cond.code y_M_end_ b_M_end_ 14 (some .long) :: gM
def w_M_has1 : List Cond := Cond.code y_M_has1 b_M_has1 11 (some .boolean) :: gM
def w_M_hasAny : List Cond := Cond.code y_M_hasAny b_M_hasAny 6 (some .boolean) :: gM
def w_M_tighten : List Cond := Cond.code y_M_tighten b_M_tighten 21 none :: gM
def w_M_single : List Cond := Cond.code y_M_single b_M_single 4 none :: gM
def w_M_noPlace : List Cond := Cond.code y_M_noPlace b_M_noPlace 4 (some .boolean) :: gM
def w_M_look : List Cond := Cond.code y_M_look b_M_look 2 none :: gM
def w_M_put : List Cond := Cond.code y_M_put b_M_put 5 none :: gM
def w_M_any : List Cond := Cond.code y_M_any b_M_any 4 none :: gM
def w_M_constant : List Cond := Cond.code y_M_constant b_M_constant 4 none :: gM
def w_M_between : List Cond := Cond.code y_M_between b_M_between 9 none :: gM
def w_M_pattern : List Cond := Cond.code y_M_pattern b_M_pattern 8 none :: gM
def w_M_mask : List Cond := Cond.code y_M_mask b_M_mask 1 (some .long) :: gM
def w_M_cutRow : List Cond := Cond.code y_M_cutRow b_M_cutRow 6 none :: gM
def w_M_extendRow : List Cond := Cond.code y_M_extendRow b_M_extendRow 14 none :: gM
def w_M_swapped : List Cond := Cond.code y_M_swapped b_M_swapped 6 (some .long) :: gM
def w_M_swapRow : List Cond := Cond.code y_M_swapRow b_M_swapRow 4 none :: gM
def w_M_cut : List Cond := Cond.code y_M_cut b_M_cut 4 none :: gM
def w_M_extend : List Cond := Cond.code y_M_extend b_M_extend 4 none :: gM
def w_M_swap : List Cond := Cond.code y_M_swap b_M_swap 4 none :: gM
def w_M_mayBe : List Cond := Cond.code y_M_mayBe b_M_mayBe 4 (some .boolean) :: gM
def w_M_sumBits : List Cond := Cond.code y_M_sumBits b_M_sumBits 19 none :: gM
def w_M_add : List Cond := Cond.code y_M_add b_M_add 3 none :: gM
def w_M_subtract : List Cond := Cond.code y_M_subtract b_M_subtract 3 none :: gM
def w_M_lowest : List Cond := Cond.code y_M_lowest b_M_lowest 4 (some .int) :: gM
def w_M_knowLowest : List Cond := Cond.code y_M_knowLowest b_M_knowLowest 6 none :: gM
def w_M_multiply : List Cond := Cond.code y_M_multiply b_M_multiply 15 none :: gM
def w_M_divide : List Cond := Cond.code y_M_divide b_M_divide 1 none :: gM
def w_M_remain : List Cond := Cond.code y_M_remain b_M_remain 1 none :: gM
def w_M_and_ : List Cond := Cond.code y_M_and_ b_M_and_ 3 none :: gM
def w_M_or_ : List Cond := Cond.code y_M_or_ b_M_or_ 1 none :: gM
def w_M_xor_ : List Cond := Cond.code y_M_xor_ b_M_xor_ 1 none :: gM
def w_M_left : List Cond := Cond.code y_M_left b_M_left 3 none :: gM
def w_M_right : List Cond := Cond.code y_M_right b_M_right 3 none :: gM
def w_M_signedRight : List Cond := Cond.code y_M_signedRight b_M_signedRight 9 none :: gM
def w_M_apply : List Cond := Cond.code y_M_apply b_M_apply 3 none :: gM
def w_M_reckon : List Cond := Cond.code y_M_reckon b_M_reckon 7 (some .long) :: gM
def w_M_operate : List Cond := Cond.code y_M_operate b_M_operate 8 none :: gM
def w_M_joinBits : List Cond := Cond.code y_M_joinBits b_M_joinBits 5 none :: gM
def w_M_join : List Cond := Cond.code y_M_join b_M_join 5 none :: gM
def w_M_widen : List Cond := Cond.code y_M_widen b_M_widen 4 none :: gM
def w_M_isSo : List Cond := Cond.code y_M_isSo b_M_isSo 5 (some .boolean) :: gM
def w_M_opposite : List Cond := Cond.code y_M_opposite b_M_opposite 1 (some .int) :: gM
def w_M_both : List Cond := Cond.code y_M_both b_M_both 5 none :: gM
def w_M_lose : List Cond := Cond.code y_M_lose b_M_lose 5 none :: gM
def w_M_order : List Cond := Cond.code y_M_order b_M_order 8 none :: gM
def w_M_orderLongs : List Cond := Cond.code y_M_orderLongs b_M_orderLongs 12 none :: gM
def w_M_isOneBit : List Cond := Cond.code y_M_isOneBit b_M_isOneBit 2 (some .boolean) :: gM
def w_M_force : List Cond := Cond.code y_M_force b_M_force 6 none :: gM
def w_M_refine : List Cond := Cond.code y_M_refine b_M_refine 2 none :: gM
def w_M_canBe : List Cond := Cond.code y_M_canBe b_M_canBe 4 (some .boolean) :: gM
def w_M_noComparison : List Cond := Cond.code y_M_noComparison b_M_noComparison 4 (some .boolean) :: gM
def w_M_branch : List Cond := Cond.code y_M_branch b_M_branch 5 (some .boolean) :: gM
def w_M_decided : List Cond := Cond.code y_M_decided b_M_decided 4 (some .int) :: gM
def w_M_within : List Cond := Cond.code y_M_within b_M_within 4 (some .boolean) :: gM
def w_M_has0 : List Cond := Cond.code y_M_has0 b_M_has0 4 (some .boolean) :: gM
def w_M_least : List Cond := Cond.code y_M_least b_M_least 3 (some .long) :: gM
def w_M_greatest : List Cond := Cond.code y_M_greatest b_M_greatest 3 (some .long) :: gM
def w_M_unknown : List Cond := Cond.code y_M_unknown b_M_unknown 2 (some .long) :: gM
def w_M_witness : List Cond := Cond.code y_M_witness b_M_witness 2 (some .long) :: gM
def w_M_strays : List Cond := Cond.code y_M_strays b_M_strays 1 (some .int) :: gM
theorem gxS {c0 : Cond} {own : String} {idx : Nat} {y : MethodName} {b : ByteArray} {n : Nat} {r : Option FieldType} (h1 : Cond.methodLink own idx y ∈ gM) (h2 : Cond.static y ∈ gM) (h3 : Cond.initialized y.cls ∈ gM) (h4 : Cond.code y b n r ∈ gM) : GoodIn (c0 :: gM) (va_wsS own idx y (Cond.code y b n r :: gM)) := by
  have all : ∀ w ∈ va_wsS own idx y (Cond.code y b n r :: gM), w ∈ gM := by
    intro w hw
    rcases List.mem_append.mp hw with h | h
    · rcases List.mem_cons.mp h with rfl | h
      · exact h1
      · rcases List.mem_cons.mp h with rfl | h
        · exact h2
        · rcases List.mem_cons.mp h with rfl | h
          · exact h3
          · cases h
    · rcases List.mem_cons.mp h with rfl | h
      · exact h4
      · exact h
  exact fun w hw => ⟨List.mem_cons_of_mem _ (all w hw), (gMood w (all w hw)).2⟩
theorem gxV {c0 : Cond} {own C : String} {idx : Nat} {y : MethodName} {b : ByteArray} {n : Nat} {r : Option FieldType} (h1 : Cond.methodLink own idx y ∈ gM) (h2 : Cond.instanceMethod y ∈ gM) (h3 : Cond.selects C y y ∈ gM) (h4 : Cond.initialized C ∈ gM) (h5 : Cond.code y b n r ∈ gM) : GoodIn (c0 :: gM) (wsV own idx C y (Cond.code y b n r :: gM)) := by
  have all : ∀ w ∈ wsV own idx C y (Cond.code y b n r :: gM), w ∈ gM := by
    intro w hw
    rcases List.mem_append.mp hw with h | h
    · rcases List.mem_cons.mp h with rfl | h
      · exact h1
      · rcases List.mem_cons.mp h with rfl | h
        · exact h2
        · rcases List.mem_cons.mp h with rfl | h
          · exact h3
          · rcases List.mem_cons.mp h with rfl | h
            · exact h4
            · cases h
    · rcases List.mem_cons.mp h with rfl | h
      · exact h5
      · exact h
  exact fun w hw => ⟨List.mem_cons_of_mem _ (all w hw), (gMood w (all w hw)).2⟩
def mW (ad : Nat → Nat) (cJ cZ : ClassId) (c : Int32) (r : Nat → VV) (w : Nat → Int64) (s : Int32) : va_W := [(ad 0, .inr (2, [.int c, .ref (ad 1), .ref (ad 2), .ref (ad 3), .ref (ad 4), .ref (ad 5), .ref (ad 6), .ref (ad 7), .ref (ad 8), .int s])), (ad 1, .inl (cJ, 24, .inr (.inl (fun j => (r j).1)))), (ad 2, .inl (cJ, 24, .inr (.inl (fun j => (r j).2.1)))), (ad 3, .inl (cJ, 24, .inr (.inl (fun j => (r j).2.2.1)))), (ad 4, .inl (cJ, 24, .inr (.inl (fun j => (r j).2.2.2.1)))), (ad 5, .inl (cJ, 24, .inr (.inl (fun j => (r j).2.2.2.2.1)))), (ad 6, .inl (cJ, 24, .inr (.inl (fun j => (r j).2.2.2.2.2.1)))), (ad 7, .inl (cZ, 24, .inl (fun j => bI (r j).2.2.2.2.2.2))), (ad 8, .inl (cJ, 16, .inr (.inl w)))]
def mT (cJ cZ : ClassId) : List (ClassId × FieldType) := [(cJ, .long), (cZ, .boolean)]
def u1 (r : Nat → VV) (k : Nat) (x : Int64) : Nat → VV := va_up r k (x, (r k).2.1, (r k).2.2.1, (r k).2.2.2.1, (r k).2.2.2.2.1, (r k).2.2.2.2.2.1, (r k).2.2.2.2.2.2)
def u2 (r : Nat → VV) (k : Nat) (x : Int64) : Nat → VV := va_up r k ((r k).1, x, (r k).2.2.1, (r k).2.2.2.1, (r k).2.2.2.2.1, (r k).2.2.2.2.2.1, (r k).2.2.2.2.2.2)
def u3 (r : Nat → VV) (k : Nat) (x : Int64) : Nat → VV := va_up r k ((r k).1, (r k).2.1, x, (r k).2.2.2.1, (r k).2.2.2.2.1, (r k).2.2.2.2.2.1, (r k).2.2.2.2.2.2)
def u4 (r : Nat → VV) (k : Nat) (x : Int64) : Nat → VV := va_up r k ((r k).1, (r k).2.1, (r k).2.2.1, x, (r k).2.2.2.2.1, (r k).2.2.2.2.2.1, (r k).2.2.2.2.2.2)
def u5 (r : Nat → VV) (k : Nat) (x : Int64) : Nat → VV := va_up r k ((r k).1, (r k).2.1, (r k).2.2.1, (r k).2.2.2.1, x, (r k).2.2.2.2.2.1, (r k).2.2.2.2.2.2)
def u6 (r : Nat → VV) (k : Nat) (x : Int64) : Nat → VV := va_up r k ((r k).1, (r k).2.1, (r k).2.2.1, (r k).2.2.2.1, (r k).2.2.2.2.1, x, (r k).2.2.2.2.2.2)
def u7 (r : Nat → VV) (k : Nat) (x : Bool) : Nat → VV := va_up r k ((r k).1, (r k).2.1, (r k).2.2.1, (r k).2.2.2.1, (r k).2.2.2.2.1, (r k).2.2.2.2.2.1, x)
def u8 (w : Nat → Int64) (k : Nat) (x : Int64) : Nat → Int64 := va_up w k x
def nR (D : va_G) (tys : List (ClassId × FieldType)) (ws : va_W) : State → Prop := fun U => va_P D classes ws U.heap ∧ va_K D classes tys U
def nP (D : va_G) (tys : List (ClassId × FieldType)) (ws : va_W) (sz : Nat) : State → Prop := fun U => U.heap.size = sz ∧ va_P D classes ws U.heap ∧ va_K D classes tys U ∧ va_D (fun _ => True) ws
theorem bln {D : va_G} {tys : List (ClassId × FieldType)} {ws : va_W} {av : List Value} : FrameBlind (va_Pc av (nR D tys ws)) := fun a U g mk q => by
  obtain ⟨q0, qP, qK⟩ := q
  exact ⟨q0, qP, va_K.moved (u := U) (U := U.calling g mk a) (Vm.Alike.refl U.vm) qK⟩
theorem blp {D : va_G} {tys : List (ClassId × FieldType)} {ws : va_W} {sz : Nat} {av : List Value} : FrameBlind (va_Pc av (nP D tys ws sz)) := fun a U g mk q => by
  obtain ⟨q0, q1, qP, qK, qD⟩ := q
  exact ⟨q0, q1, qP, va_K.moved (u := U) (U := U.calling g mk a) (Vm.Alike.refl U.vm) qK, qD⟩
theorem uc1_1 (r : Nat → VV) (k : Nat) (x : Int64) : (fun j => ((u1 r k x) j).1) = vp_updL (fun j => (r j).1) k x := by
  funext j
  by_cases h : j = k
  · subst h; simp [u1, va_up, vp_updL]
  · simp [u1, va_up, h, vp_updL]
theorem uc1_2 (r : Nat → VV) (k : Nat) (x : Int64) : (fun j => ((u1 r k x) j).2.1) = (fun j => (r j).2.1) := by
  funext j
  by_cases h : j = k
  · subst h; simp [u1, va_up]
  · simp [u1, va_up, h]
theorem uc1_3 (r : Nat → VV) (k : Nat) (x : Int64) : (fun j => ((u1 r k x) j).2.2.1) = (fun j => (r j).2.2.1) := by
  funext j
  by_cases h : j = k
  · subst h; simp [u1, va_up]
  · simp [u1, va_up, h]
theorem uc1_4 (r : Nat → VV) (k : Nat) (x : Int64) : (fun j => ((u1 r k x) j).2.2.2.1) = (fun j => (r j).2.2.2.1) := by
  funext j
  by_cases h : j = k
  · subst h; simp [u1, va_up]
  · simp [u1, va_up, h]
theorem uc1_5 (r : Nat → VV) (k : Nat) (x : Int64) : (fun j => ((u1 r k x) j).2.2.2.2.1) = (fun j => (r j).2.2.2.2.1) := by
  funext j
  by_cases h : j = k
  · subst h; simp [u1, va_up]
  · simp [u1, va_up, h]
theorem uc1_6 (r : Nat → VV) (k : Nat) (x : Int64) : (fun j => ((u1 r k x) j).2.2.2.2.2.1) = (fun j => (r j).2.2.2.2.2.1) := by
  funext j
  by_cases h : j = k
  · subst h; simp [u1, va_up]
  · simp [u1, va_up, h]
theorem uc1_7 (r : Nat → VV) (k : Nat) (x : Int64) : (fun j => bI (((u1 r k x) j).2.2.2.2.2.2)) = (fun j => bI ((r j).2.2.2.2.2.2)) := by
  funext j
  by_cases h : j = k
  · subst h; simp [u1, va_up]
  · simp [u1, va_up, h]
theorem mW_1 (ad : Nat → Nat) (cJ cZ : ClassId) (c : Int32) (r : Nat → VV) (w : Nat → Int64) (s : Int32) (k : Nat) (x : Int64) : (mW ad cJ cZ c r w s).set 1 (ad 1, .inl (cJ, 24, .inr (.inl (vp_updL (fun j => (r j).1) k x)))) = mW ad cJ cZ c (u1 r k x) w s := by
  show [_, _, _, _, _, _, _, _, _] = [_, _, _, _, _, _, _, _, _]
  rw [uc1_1, uc1_2, uc1_3, uc1_4, uc1_5, uc1_6, uc1_7]
theorem uc2_1 (r : Nat → VV) (k : Nat) (x : Int64) : (fun j => ((u2 r k x) j).1) = (fun j => (r j).1) := by
  funext j
  by_cases h : j = k
  · subst h; simp [u2, va_up]
  · simp [u2, va_up, h]
theorem uc2_2 (r : Nat → VV) (k : Nat) (x : Int64) : (fun j => ((u2 r k x) j).2.1) = vp_updL (fun j => (r j).2.1) k x := by
  funext j
  by_cases h : j = k
  · subst h; simp [u2, va_up, vp_updL]
  · simp [u2, va_up, h, vp_updL]
theorem uc2_3 (r : Nat → VV) (k : Nat) (x : Int64) : (fun j => ((u2 r k x) j).2.2.1) = (fun j => (r j).2.2.1) := by
  funext j
  by_cases h : j = k
  · subst h; simp [u2, va_up]
  · simp [u2, va_up, h]
theorem uc2_4 (r : Nat → VV) (k : Nat) (x : Int64) : (fun j => ((u2 r k x) j).2.2.2.1) = (fun j => (r j).2.2.2.1) := by
  funext j
  by_cases h : j = k
  · subst h; simp [u2, va_up]
  · simp [u2, va_up, h]
theorem uc2_5 (r : Nat → VV) (k : Nat) (x : Int64) : (fun j => ((u2 r k x) j).2.2.2.2.1) = (fun j => (r j).2.2.2.2.1) := by
  funext j
  by_cases h : j = k
  · subst h; simp [u2, va_up]
  · simp [u2, va_up, h]
theorem uc2_6 (r : Nat → VV) (k : Nat) (x : Int64) : (fun j => ((u2 r k x) j).2.2.2.2.2.1) = (fun j => (r j).2.2.2.2.2.1) := by
  funext j
  by_cases h : j = k
  · subst h; simp [u2, va_up]
  · simp [u2, va_up, h]
theorem uc2_7 (r : Nat → VV) (k : Nat) (x : Int64) : (fun j => bI (((u2 r k x) j).2.2.2.2.2.2)) = (fun j => bI ((r j).2.2.2.2.2.2)) := by
  funext j
  by_cases h : j = k
  · subst h; simp [u2, va_up]
  · simp [u2, va_up, h]
theorem mW_2 (ad : Nat → Nat) (cJ cZ : ClassId) (c : Int32) (r : Nat → VV) (w : Nat → Int64) (s : Int32) (k : Nat) (x : Int64) : (mW ad cJ cZ c r w s).set 2 (ad 2, .inl (cJ, 24, .inr (.inl (vp_updL (fun j => (r j).2.1) k x)))) = mW ad cJ cZ c (u2 r k x) w s := by
  show [_, _, _, _, _, _, _, _, _] = [_, _, _, _, _, _, _, _, _]
  rw [uc2_1, uc2_2, uc2_3, uc2_4, uc2_5, uc2_6, uc2_7]
theorem uc3_1 (r : Nat → VV) (k : Nat) (x : Int64) : (fun j => ((u3 r k x) j).1) = (fun j => (r j).1) := by
  funext j
  by_cases h : j = k
  · subst h; simp [u3, va_up]
  · simp [u3, va_up, h]
theorem uc3_2 (r : Nat → VV) (k : Nat) (x : Int64) : (fun j => ((u3 r k x) j).2.1) = (fun j => (r j).2.1) := by
  funext j
  by_cases h : j = k
  · subst h; simp [u3, va_up]
  · simp [u3, va_up, h]
theorem uc3_3 (r : Nat → VV) (k : Nat) (x : Int64) : (fun j => ((u3 r k x) j).2.2.1) = vp_updL (fun j => (r j).2.2.1) k x := by
  funext j
  by_cases h : j = k
  · subst h; simp [u3, va_up, vp_updL]
  · simp [u3, va_up, h, vp_updL]
theorem uc3_4 (r : Nat → VV) (k : Nat) (x : Int64) : (fun j => ((u3 r k x) j).2.2.2.1) = (fun j => (r j).2.2.2.1) := by
  funext j
  by_cases h : j = k
  · subst h; simp [u3, va_up]
  · simp [u3, va_up, h]
theorem uc3_5 (r : Nat → VV) (k : Nat) (x : Int64) : (fun j => ((u3 r k x) j).2.2.2.2.1) = (fun j => (r j).2.2.2.2.1) := by
  funext j
  by_cases h : j = k
  · subst h; simp [u3, va_up]
  · simp [u3, va_up, h]
theorem uc3_6 (r : Nat → VV) (k : Nat) (x : Int64) : (fun j => ((u3 r k x) j).2.2.2.2.2.1) = (fun j => (r j).2.2.2.2.2.1) := by
  funext j
  by_cases h : j = k
  · subst h; simp [u3, va_up]
  · simp [u3, va_up, h]
theorem uc3_7 (r : Nat → VV) (k : Nat) (x : Int64) : (fun j => bI (((u3 r k x) j).2.2.2.2.2.2)) = (fun j => bI ((r j).2.2.2.2.2.2)) := by
  funext j
  by_cases h : j = k
  · subst h; simp [u3, va_up]
  · simp [u3, va_up, h]
theorem mW_3 (ad : Nat → Nat) (cJ cZ : ClassId) (c : Int32) (r : Nat → VV) (w : Nat → Int64) (s : Int32) (k : Nat) (x : Int64) : (mW ad cJ cZ c r w s).set 3 (ad 3, .inl (cJ, 24, .inr (.inl (vp_updL (fun j => (r j).2.2.1) k x)))) = mW ad cJ cZ c (u3 r k x) w s := by
  show [_, _, _, _, _, _, _, _, _] = [_, _, _, _, _, _, _, _, _]
  rw [uc3_1, uc3_2, uc3_3, uc3_4, uc3_5, uc3_6, uc3_7]
theorem uc4_1 (r : Nat → VV) (k : Nat) (x : Int64) : (fun j => ((u4 r k x) j).1) = (fun j => (r j).1) := by
  funext j
  by_cases h : j = k
  · subst h; simp [u4, va_up]
  · simp [u4, va_up, h]
theorem uc4_2 (r : Nat → VV) (k : Nat) (x : Int64) : (fun j => ((u4 r k x) j).2.1) = (fun j => (r j).2.1) := by
  funext j
  by_cases h : j = k
  · subst h; simp [u4, va_up]
  · simp [u4, va_up, h]
theorem uc4_3 (r : Nat → VV) (k : Nat) (x : Int64) : (fun j => ((u4 r k x) j).2.2.1) = (fun j => (r j).2.2.1) := by
  funext j
  by_cases h : j = k
  · subst h; simp [u4, va_up]
  · simp [u4, va_up, h]
theorem uc4_4 (r : Nat → VV) (k : Nat) (x : Int64) : (fun j => ((u4 r k x) j).2.2.2.1) = vp_updL (fun j => (r j).2.2.2.1) k x := by
  funext j
  by_cases h : j = k
  · subst h; simp [u4, va_up, vp_updL]
  · simp [u4, va_up, h, vp_updL]
theorem uc4_5 (r : Nat → VV) (k : Nat) (x : Int64) : (fun j => ((u4 r k x) j).2.2.2.2.1) = (fun j => (r j).2.2.2.2.1) := by
  funext j
  by_cases h : j = k
  · subst h; simp [u4, va_up]
  · simp [u4, va_up, h]
theorem uc4_6 (r : Nat → VV) (k : Nat) (x : Int64) : (fun j => ((u4 r k x) j).2.2.2.2.2.1) = (fun j => (r j).2.2.2.2.2.1) := by
  funext j
  by_cases h : j = k
  · subst h; simp [u4, va_up]
  · simp [u4, va_up, h]
theorem uc4_7 (r : Nat → VV) (k : Nat) (x : Int64) : (fun j => bI (((u4 r k x) j).2.2.2.2.2.2)) = (fun j => bI ((r j).2.2.2.2.2.2)) := by
  funext j
  by_cases h : j = k
  · subst h; simp [u4, va_up]
  · simp [u4, va_up, h]
theorem mW_4 (ad : Nat → Nat) (cJ cZ : ClassId) (c : Int32) (r : Nat → VV) (w : Nat → Int64) (s : Int32) (k : Nat) (x : Int64) : (mW ad cJ cZ c r w s).set 4 (ad 4, .inl (cJ, 24, .inr (.inl (vp_updL (fun j => (r j).2.2.2.1) k x)))) = mW ad cJ cZ c (u4 r k x) w s := by
  show [_, _, _, _, _, _, _, _, _] = [_, _, _, _, _, _, _, _, _]
  rw [uc4_1, uc4_2, uc4_3, uc4_4, uc4_5, uc4_6, uc4_7]
theorem uc5_1 (r : Nat → VV) (k : Nat) (x : Int64) : (fun j => ((u5 r k x) j).1) = (fun j => (r j).1) := by
  funext j
  by_cases h : j = k
  · subst h; simp [u5, va_up]
  · simp [u5, va_up, h]
theorem uc5_2 (r : Nat → VV) (k : Nat) (x : Int64) : (fun j => ((u5 r k x) j).2.1) = (fun j => (r j).2.1) := by
  funext j
  by_cases h : j = k
  · subst h; simp [u5, va_up]
  · simp [u5, va_up, h]
theorem uc5_3 (r : Nat → VV) (k : Nat) (x : Int64) : (fun j => ((u5 r k x) j).2.2.1) = (fun j => (r j).2.2.1) := by
  funext j
  by_cases h : j = k
  · subst h; simp [u5, va_up]
  · simp [u5, va_up, h]
theorem uc5_4 (r : Nat → VV) (k : Nat) (x : Int64) : (fun j => ((u5 r k x) j).2.2.2.1) = (fun j => (r j).2.2.2.1) := by
  funext j
  by_cases h : j = k
  · subst h; simp [u5, va_up]
  · simp [u5, va_up, h]
theorem uc5_5 (r : Nat → VV) (k : Nat) (x : Int64) : (fun j => ((u5 r k x) j).2.2.2.2.1) = vp_updL (fun j => (r j).2.2.2.2.1) k x := by
  funext j
  by_cases h : j = k
  · subst h; simp [u5, va_up, vp_updL]
  · simp [u5, va_up, h, vp_updL]
theorem uc5_6 (r : Nat → VV) (k : Nat) (x : Int64) : (fun j => ((u5 r k x) j).2.2.2.2.2.1) = (fun j => (r j).2.2.2.2.2.1) := by
  funext j
  by_cases h : j = k
  · subst h; simp [u5, va_up]
  · simp [u5, va_up, h]
theorem uc5_7 (r : Nat → VV) (k : Nat) (x : Int64) : (fun j => bI (((u5 r k x) j).2.2.2.2.2.2)) = (fun j => bI ((r j).2.2.2.2.2.2)) := by
  funext j
  by_cases h : j = k
  · subst h; simp [u5, va_up]
  · simp [u5, va_up, h]
theorem mW_5 (ad : Nat → Nat) (cJ cZ : ClassId) (c : Int32) (r : Nat → VV) (w : Nat → Int64) (s : Int32) (k : Nat) (x : Int64) : (mW ad cJ cZ c r w s).set 5 (ad 5, .inl (cJ, 24, .inr (.inl (vp_updL (fun j => (r j).2.2.2.2.1) k x)))) = mW ad cJ cZ c (u5 r k x) w s := by
  show [_, _, _, _, _, _, _, _, _] = [_, _, _, _, _, _, _, _, _]
  rw [uc5_1, uc5_2, uc5_3, uc5_4, uc5_5, uc5_6, uc5_7]
theorem uc6_1 (r : Nat → VV) (k : Nat) (x : Int64) : (fun j => ((u6 r k x) j).1) = (fun j => (r j).1) := by
  funext j
  by_cases h : j = k
  · subst h; simp [u6, va_up]
  · simp [u6, va_up, h]
theorem uc6_2 (r : Nat → VV) (k : Nat) (x : Int64) : (fun j => ((u6 r k x) j).2.1) = (fun j => (r j).2.1) := by
  funext j
  by_cases h : j = k
  · subst h; simp [u6, va_up]
  · simp [u6, va_up, h]
theorem uc6_3 (r : Nat → VV) (k : Nat) (x : Int64) : (fun j => ((u6 r k x) j).2.2.1) = (fun j => (r j).2.2.1) := by
  funext j
  by_cases h : j = k
  · subst h; simp [u6, va_up]
  · simp [u6, va_up, h]
theorem uc6_4 (r : Nat → VV) (k : Nat) (x : Int64) : (fun j => ((u6 r k x) j).2.2.2.1) = (fun j => (r j).2.2.2.1) := by
  funext j
  by_cases h : j = k
  · subst h; simp [u6, va_up]
  · simp [u6, va_up, h]
theorem uc6_5 (r : Nat → VV) (k : Nat) (x : Int64) : (fun j => ((u6 r k x) j).2.2.2.2.1) = (fun j => (r j).2.2.2.2.1) := by
  funext j
  by_cases h : j = k
  · subst h; simp [u6, va_up]
  · simp [u6, va_up, h]
theorem uc6_6 (r : Nat → VV) (k : Nat) (x : Int64) : (fun j => ((u6 r k x) j).2.2.2.2.2.1) = vp_updL (fun j => (r j).2.2.2.2.2.1) k x := by
  funext j
  by_cases h : j = k
  · subst h; simp [u6, va_up, vp_updL]
  · simp [u6, va_up, h, vp_updL]
theorem uc6_7 (r : Nat → VV) (k : Nat) (x : Int64) : (fun j => bI (((u6 r k x) j).2.2.2.2.2.2)) = (fun j => bI ((r j).2.2.2.2.2.2)) := by
  funext j
  by_cases h : j = k
  · subst h; simp [u6, va_up]
  · simp [u6, va_up, h]
theorem mW_6 (ad : Nat → Nat) (cJ cZ : ClassId) (c : Int32) (r : Nat → VV) (w : Nat → Int64) (s : Int32) (k : Nat) (x : Int64) : (mW ad cJ cZ c r w s).set 6 (ad 6, .inl (cJ, 24, .inr (.inl (vp_updL (fun j => (r j).2.2.2.2.2.1) k x)))) = mW ad cJ cZ c (u6 r k x) w s := by
  show [_, _, _, _, _, _, _, _, _] = [_, _, _, _, _, _, _, _, _]
  rw [uc6_1, uc6_2, uc6_3, uc6_4, uc6_5, uc6_6, uc6_7]
theorem uc7_1 (r : Nat → VV) (k : Nat) (x : Bool) : (fun j => ((u7 r k x) j).1) = (fun j => (r j).1) := by
  funext j
  by_cases h : j = k
  · subst h; simp [u7, va_up]
  · simp [u7, va_up, h]
theorem uc7_2 (r : Nat → VV) (k : Nat) (x : Bool) : (fun j => ((u7 r k x) j).2.1) = (fun j => (r j).2.1) := by
  funext j
  by_cases h : j = k
  · subst h; simp [u7, va_up]
  · simp [u7, va_up, h]
theorem uc7_3 (r : Nat → VV) (k : Nat) (x : Bool) : (fun j => ((u7 r k x) j).2.2.1) = (fun j => (r j).2.2.1) := by
  funext j
  by_cases h : j = k
  · subst h; simp [u7, va_up]
  · simp [u7, va_up, h]
theorem uc7_4 (r : Nat → VV) (k : Nat) (x : Bool) : (fun j => ((u7 r k x) j).2.2.2.1) = (fun j => (r j).2.2.2.1) := by
  funext j
  by_cases h : j = k
  · subst h; simp [u7, va_up]
  · simp [u7, va_up, h]
theorem uc7_5 (r : Nat → VV) (k : Nat) (x : Bool) : (fun j => ((u7 r k x) j).2.2.2.2.1) = (fun j => (r j).2.2.2.2.1) := by
  funext j
  by_cases h : j = k
  · subst h; simp [u7, va_up]
  · simp [u7, va_up, h]
theorem uc7_6 (r : Nat → VV) (k : Nat) (x : Bool) : (fun j => ((u7 r k x) j).2.2.2.2.2.1) = (fun j => (r j).2.2.2.2.2.1) := by
  funext j
  by_cases h : j = k
  · subst h; simp [u7, va_up]
  · simp [u7, va_up, h]
theorem uc7_7 (r : Nat → VV) (k : Nat) (x : Bool) : (fun j => bI (((u7 r k x) j).2.2.2.2.2.2)) = upd (fun j => bI (r j).2.2.2.2.2.2) k (bI x) := by
  funext j
  by_cases h : j = k
  · subst h; simp [u7, va_up, upd]
  · simp [u7, va_up, h, upd]
theorem mW_7 (ad : Nat → Nat) (cJ cZ : ClassId) (c : Int32) (r : Nat → VV) (w : Nat → Int64) (s : Int32) (k : Nat) (x : Bool) : (mW ad cJ cZ c r w s).set 7 (ad 7, .inl (cZ, 24, .inl (upd (fun j => bI (r j).2.2.2.2.2.2) k (bI x)))) = mW ad cJ cZ c (u7 r k x) w s := by
  show [_, _, _, _, _, _, _, _, _] = [_, _, _, _, _, _, _, _, _]
  rw [uc7_1, uc7_2, uc7_3, uc7_4, uc7_5, uc7_6, uc7_7]
theorem vpb (b : Bool) : vp_nar .boolean (bI b) = bI b := by cases b <;> rfl
section MROWS
variable {p : Program} {l : Launch} {e : Env} {R : Room} {s : State} {m : MethodId} {args : Array Value} {below : List Frame} {meth : Method} {c : Code} {H : Heap} {locs : List Loc} {cells slots : Nat} {Q : State → Prop}
variable {pc : Nat} {ls : Array Slot} {rest st0 : List Value} {a : Array Value} {A0 : Nat → Prop} {H0 : Heap} {D : va_G} {cc : ByteArray} {ad : Nat → Nat} {cJ cZ : ClassId} {co so : Int32} {r : Nat → VV} {w : Nat → Int64}
theorem ml_1 {P : Nat} (hexec : p.tables.exec = Jvm.exec) (hb : c.code = cc) (hK : va_K D classes (mT cJ cZ) s) (hP : va_P D classes (mW ad cJ cZ co r w so) H) {i : Int32} (hi : i = nI P) (hn : P < 24) (hdg : decode cc pc = .ok (.laload, 1)) (kk : W p l e R s m args below meth c H locs cells slots Q (F0 m (pc + 1) ls (.long (r P).1 :: rest))) : W p l e R s m args below meth c H locs cells slots Q (F0 m pc ls (.int i :: .ref (ad 1) :: rest)) := by
  subst hi
  refine va_lald hexec hb hK hP 1 0 rfl rfl (vp_in_nI hn (by decide)) hdg ?_
  rw [nI_clamp (by omega)]
  exact kk
theorem ml_2 {P : Nat} (hexec : p.tables.exec = Jvm.exec) (hb : c.code = cc) (hK : va_K D classes (mT cJ cZ) s) (hP : va_P D classes (mW ad cJ cZ co r w so) H) {i : Int32} (hi : i = nI P) (hn : P < 24) (hdg : decode cc pc = .ok (.laload, 1)) (kk : W p l e R s m args below meth c H locs cells slots Q (F0 m (pc + 1) ls (.long (r P).2.1 :: rest))) : W p l e R s m args below meth c H locs cells slots Q (F0 m pc ls (.int i :: .ref (ad 2) :: rest)) := by
  subst hi
  refine va_lald hexec hb hK hP 2 0 rfl rfl (vp_in_nI hn (by decide)) hdg ?_
  rw [nI_clamp (by omega)]
  exact kk
theorem ml_3 {P : Nat} (hexec : p.tables.exec = Jvm.exec) (hb : c.code = cc) (hK : va_K D classes (mT cJ cZ) s) (hP : va_P D classes (mW ad cJ cZ co r w so) H) {i : Int32} (hi : i = nI P) (hn : P < 24) (hdg : decode cc pc = .ok (.laload, 1)) (kk : W p l e R s m args below meth c H locs cells slots Q (F0 m (pc + 1) ls (.long (r P).2.2.1 :: rest))) : W p l e R s m args below meth c H locs cells slots Q (F0 m pc ls (.int i :: .ref (ad 3) :: rest)) := by
  subst hi
  refine va_lald hexec hb hK hP 3 0 rfl rfl (vp_in_nI hn (by decide)) hdg ?_
  rw [nI_clamp (by omega)]
  exact kk
theorem ml_4 {P : Nat} (hexec : p.tables.exec = Jvm.exec) (hb : c.code = cc) (hK : va_K D classes (mT cJ cZ) s) (hP : va_P D classes (mW ad cJ cZ co r w so) H) {i : Int32} (hi : i = nI P) (hn : P < 24) (hdg : decode cc pc = .ok (.laload, 1)) (kk : W p l e R s m args below meth c H locs cells slots Q (F0 m (pc + 1) ls (.long (r P).2.2.2.1 :: rest))) : W p l e R s m args below meth c H locs cells slots Q (F0 m pc ls (.int i :: .ref (ad 4) :: rest)) := by
  subst hi
  refine va_lald hexec hb hK hP 4 0 rfl rfl (vp_in_nI hn (by decide)) hdg ?_
  rw [nI_clamp (by omega)]
  exact kk
theorem ml_5 {P : Nat} (hexec : p.tables.exec = Jvm.exec) (hb : c.code = cc) (hK : va_K D classes (mT cJ cZ) s) (hP : va_P D classes (mW ad cJ cZ co r w so) H) {i : Int32} (hi : i = nI P) (hn : P < 24) (hdg : decode cc pc = .ok (.laload, 1)) (kk : W p l e R s m args below meth c H locs cells slots Q (F0 m (pc + 1) ls (.long (r P).2.2.2.2.1 :: rest))) : W p l e R s m args below meth c H locs cells slots Q (F0 m pc ls (.int i :: .ref (ad 5) :: rest)) := by
  subst hi
  refine va_lald hexec hb hK hP 5 0 rfl rfl (vp_in_nI hn (by decide)) hdg ?_
  rw [nI_clamp (by omega)]
  exact kk
theorem ml_6 {P : Nat} (hexec : p.tables.exec = Jvm.exec) (hb : c.code = cc) (hK : va_K D classes (mT cJ cZ) s) (hP : va_P D classes (mW ad cJ cZ co r w so) H) {i : Int32} (hi : i = nI P) (hn : P < 24) (hdg : decode cc pc = .ok (.laload, 1)) (kk : W p l e R s m args below meth c H locs cells slots Q (F0 m (pc + 1) ls (.long (r P).2.2.2.2.2.1 :: rest))) : W p l e R s m args below meth c H locs cells slots Q (F0 m pc ls (.int i :: .ref (ad 6) :: rest)) := by
  subst hi
  refine va_lald hexec hb hK hP 6 0 rfl rfl (vp_in_nI hn (by decide)) hdg ?_
  rw [nI_clamp (by omega)]
  exact kk
theorem ml_7 {P : Nat} (hexec : p.tables.exec = Jvm.exec) (hb : c.code = cc) (hK : va_K D classes (mT cJ cZ) s) (hP : va_P D classes (mW ad cJ cZ co r w so) H) {i : Int32} (hi : i = nI P) (hn : P < 24) (hdg : decode cc pc = .ok (.baload, 1)) (kk : W p l e R s m args below meth c H locs cells slots Q (F0 m (pc + 1) ls (.int (bI (r P).2.2.2.2.2.2) :: rest))) : W p l e R s m args below meth c H locs cells slots Q (F0 m pc ls (.int i :: .ref (ad 7) :: rest)) := by
  subst hi
  refine va_zald hexec hb hK hP 7 1 rfl rfl (vp_in_nI hn (by decide)) hdg ?_
  rw [nI_clamp (by omega)]
  exact kk
theorem ml_8 {P : Nat} (hexec : p.tables.exec = Jvm.exec) (hb : c.code = cc) (hK : va_K D classes (mT cJ cZ) s) (hP : va_P D classes (mW ad cJ cZ co r w so) H) {i : Int32} (hi : i = nI P) (hn : P < 16) (hdg : decode cc pc = .ok (.laload, 1)) (kk : W p l e R s m args below meth c H locs cells slots Q (F0 m (pc + 1) ls (.long (w P) :: rest))) : W p l e R s m args below meth c H locs cells slots Q (F0 m pc ls (.int i :: .ref (ad 8) :: rest)) := by
  subst hi
  refine va_lald hexec hb hK hP 8 0 rfl rfl (vp_in_nI hn (by decide)) hdg ?_
  rw [nI_clamp (by omega)]
  exact kk
theorem ms_1 {P : Nat} {x : Int64} (hexec : p.tables.exec = Jvm.exec) (hb : c.code = cc) (hK : va_K D classes (mT cJ cZ) s) (hP : va_P D classes (mW ad cJ cZ co r w so) H) (hD : va_D A0 (mW ad cJ cZ co r w so)) (hS : va_S A0 H0 H locs) {i : Int32} (hi : i = nI P) (hn : P < 24) (hdg : decode cc pc = .ok (.lastore, 1)) (kk : ∀ (H1 : Heap) (locs1 : List Loc), va_P D classes (mW ad cJ cZ co (u1 r P x) w so) H1 → va_D A0 (mW ad cJ cZ co (u1 r P x) w so) → va_S A0 H0 H1 locs1 → W p l e R s m args below meth c H1 locs1 cells slots Q (F0 m (pc + 1) ls rest)) : W p l e R s m args below meth c H locs cells slots Q (F0 m pc ls (.long x :: .int i :: .ref (ad 1) :: rest)) := by
  subst hi
  refine va_last hexec hb hK hP hD hS 1 0 rfl rfl (vp_in_nI hn (by decide)) hdg (fun H1 locs1 h1 h2 h3 => ?_)
  rw [nI_clamp (by omega), mW_1] at h1 h2
  exact kk H1 locs1 h1 h2 h3
theorem ms_2 {P : Nat} {x : Int64} (hexec : p.tables.exec = Jvm.exec) (hb : c.code = cc) (hK : va_K D classes (mT cJ cZ) s) (hP : va_P D classes (mW ad cJ cZ co r w so) H) (hD : va_D A0 (mW ad cJ cZ co r w so)) (hS : va_S A0 H0 H locs) {i : Int32} (hi : i = nI P) (hn : P < 24) (hdg : decode cc pc = .ok (.lastore, 1)) (kk : ∀ (H1 : Heap) (locs1 : List Loc), va_P D classes (mW ad cJ cZ co (u2 r P x) w so) H1 → va_D A0 (mW ad cJ cZ co (u2 r P x) w so) → va_S A0 H0 H1 locs1 → W p l e R s m args below meth c H1 locs1 cells slots Q (F0 m (pc + 1) ls rest)) : W p l e R s m args below meth c H locs cells slots Q (F0 m pc ls (.long x :: .int i :: .ref (ad 2) :: rest)) := by
  subst hi
  refine va_last hexec hb hK hP hD hS 2 0 rfl rfl (vp_in_nI hn (by decide)) hdg (fun H1 locs1 h1 h2 h3 => ?_)
  rw [nI_clamp (by omega), mW_2] at h1 h2
  exact kk H1 locs1 h1 h2 h3
theorem ms_3 {P : Nat} {x : Int64} (hexec : p.tables.exec = Jvm.exec) (hb : c.code = cc) (hK : va_K D classes (mT cJ cZ) s) (hP : va_P D classes (mW ad cJ cZ co r w so) H) (hD : va_D A0 (mW ad cJ cZ co r w so)) (hS : va_S A0 H0 H locs) {i : Int32} (hi : i = nI P) (hn : P < 24) (hdg : decode cc pc = .ok (.lastore, 1)) (kk : ∀ (H1 : Heap) (locs1 : List Loc), va_P D classes (mW ad cJ cZ co (u3 r P x) w so) H1 → va_D A0 (mW ad cJ cZ co (u3 r P x) w so) → va_S A0 H0 H1 locs1 → W p l e R s m args below meth c H1 locs1 cells slots Q (F0 m (pc + 1) ls rest)) : W p l e R s m args below meth c H locs cells slots Q (F0 m pc ls (.long x :: .int i :: .ref (ad 3) :: rest)) := by
  subst hi
  refine va_last hexec hb hK hP hD hS 3 0 rfl rfl (vp_in_nI hn (by decide)) hdg (fun H1 locs1 h1 h2 h3 => ?_)
  rw [nI_clamp (by omega), mW_3] at h1 h2
  exact kk H1 locs1 h1 h2 h3
theorem ms_4 {P : Nat} {x : Int64} (hexec : p.tables.exec = Jvm.exec) (hb : c.code = cc) (hK : va_K D classes (mT cJ cZ) s) (hP : va_P D classes (mW ad cJ cZ co r w so) H) (hD : va_D A0 (mW ad cJ cZ co r w so)) (hS : va_S A0 H0 H locs) {i : Int32} (hi : i = nI P) (hn : P < 24) (hdg : decode cc pc = .ok (.lastore, 1)) (kk : ∀ (H1 : Heap) (locs1 : List Loc), va_P D classes (mW ad cJ cZ co (u4 r P x) w so) H1 → va_D A0 (mW ad cJ cZ co (u4 r P x) w so) → va_S A0 H0 H1 locs1 → W p l e R s m args below meth c H1 locs1 cells slots Q (F0 m (pc + 1) ls rest)) : W p l e R s m args below meth c H locs cells slots Q (F0 m pc ls (.long x :: .int i :: .ref (ad 4) :: rest)) := by
  subst hi
  refine va_last hexec hb hK hP hD hS 4 0 rfl rfl (vp_in_nI hn (by decide)) hdg (fun H1 locs1 h1 h2 h3 => ?_)
  rw [nI_clamp (by omega), mW_4] at h1 h2
  exact kk H1 locs1 h1 h2 h3
theorem ms_5 {P : Nat} {x : Int64} (hexec : p.tables.exec = Jvm.exec) (hb : c.code = cc) (hK : va_K D classes (mT cJ cZ) s) (hP : va_P D classes (mW ad cJ cZ co r w so) H) (hD : va_D A0 (mW ad cJ cZ co r w so)) (hS : va_S A0 H0 H locs) {i : Int32} (hi : i = nI P) (hn : P < 24) (hdg : decode cc pc = .ok (.lastore, 1)) (kk : ∀ (H1 : Heap) (locs1 : List Loc), va_P D classes (mW ad cJ cZ co (u5 r P x) w so) H1 → va_D A0 (mW ad cJ cZ co (u5 r P x) w so) → va_S A0 H0 H1 locs1 → W p l e R s m args below meth c H1 locs1 cells slots Q (F0 m (pc + 1) ls rest)) : W p l e R s m args below meth c H locs cells slots Q (F0 m pc ls (.long x :: .int i :: .ref (ad 5) :: rest)) := by
  subst hi
  refine va_last hexec hb hK hP hD hS 5 0 rfl rfl (vp_in_nI hn (by decide)) hdg (fun H1 locs1 h1 h2 h3 => ?_)
  rw [nI_clamp (by omega), mW_5] at h1 h2
  exact kk H1 locs1 h1 h2 h3
theorem ms_6 {P : Nat} {x : Int64} (hexec : p.tables.exec = Jvm.exec) (hb : c.code = cc) (hK : va_K D classes (mT cJ cZ) s) (hP : va_P D classes (mW ad cJ cZ co r w so) H) (hD : va_D A0 (mW ad cJ cZ co r w so)) (hS : va_S A0 H0 H locs) {i : Int32} (hi : i = nI P) (hn : P < 24) (hdg : decode cc pc = .ok (.lastore, 1)) (kk : ∀ (H1 : Heap) (locs1 : List Loc), va_P D classes (mW ad cJ cZ co (u6 r P x) w so) H1 → va_D A0 (mW ad cJ cZ co (u6 r P x) w so) → va_S A0 H0 H1 locs1 → W p l e R s m args below meth c H1 locs1 cells slots Q (F0 m (pc + 1) ls rest)) : W p l e R s m args below meth c H locs cells slots Q (F0 m pc ls (.long x :: .int i :: .ref (ad 6) :: rest)) := by
  subst hi
  refine va_last hexec hb hK hP hD hS 6 0 rfl rfl (vp_in_nI hn (by decide)) hdg (fun H1 locs1 h1 h2 h3 => ?_)
  rw [nI_clamp (by omega), mW_6] at h1 h2
  exact kk H1 locs1 h1 h2 h3
theorem ms_7 {P : Nat} {x : Bool} (hexec : p.tables.exec = Jvm.exec) (hb : c.code = cc) (hK : va_K D classes (mT cJ cZ) s) (hP : va_P D classes (mW ad cJ cZ co r w so) H) (hD : va_D A0 (mW ad cJ cZ co r w so)) (hS : va_S A0 H0 H locs) {i : Int32} (hi : i = nI P) (hn : P < 24) (hdg : decode cc pc = .ok (.bastore, 1)) (kk : ∀ (H1 : Heap) (locs1 : List Loc), va_P D classes (mW ad cJ cZ co (u7 r P x) w so) H1 → va_D A0 (mW ad cJ cZ co (u7 r P x) w so) → va_S A0 H0 H1 locs1 → W p l e R s m args below meth c H1 locs1 cells slots Q (F0 m (pc + 1) ls rest)) : W p l e R s m args below meth c H locs cells slots Q (F0 m pc ls (.int (bI x) :: .int i :: .ref (ad 7) :: rest)) := by
  subst hi
  refine va_zast hexec hb hK hP hD hS 7 1 rfl rfl (vp_in_nI hn (by decide)) hdg (fun H1 locs1 h1 h2 h3 => ?_)
  rw [nI_clamp (by omega), vpb, mW_7] at h1 h2
  exact kk H1 locs1 h1 h2 h3
theorem ms_8 {P : Nat} {x : Int64} (hexec : p.tables.exec = Jvm.exec) (hb : c.code = cc) (hK : va_K D classes (mT cJ cZ) s) (hP : va_P D classes (mW ad cJ cZ co r w so) H) (hD : va_D A0 (mW ad cJ cZ co r w so)) (hS : va_S A0 H0 H locs) {i : Int32} (hi : i = nI P) (hn : P < 16) (hdg : decode cc pc = .ok (.lastore, 1)) (kk : ∀ (H1 : Heap) (locs1 : List Loc), va_P D classes (mW ad cJ cZ co r (u8 w P x) so) H1 → va_D A0 (mW ad cJ cZ co r (u8 w P x) so) → va_S A0 H0 H1 locs1 → W p l e R s m args below meth c H1 locs1 cells slots Q (F0 m (pc + 1) ls rest)) : W p l e R s m args below meth c H locs cells slots Q (F0 m pc ls (.long x :: .int i :: .ref (ad 8) :: rest)) := by
  subst hi
  refine va_last hexec hb hK hP hD hS 8 0 rfl rfl (vp_in_nI hn (by decide)) hdg (fun H1 locs1 h1 h2 h3 => ?_)
  rw [nI_clamp (by omega)] at h1 h2
  exact kk H1 locs1 h1 h2 h3
theorem mp_c {x : Int32} {own : String} {index : Nat} {Ts : List Cond} (hexec : p.tables.exec = Jvm.exec) (hb : c.code = cc) (hts : ∀ w ∈ Ts, w.before args s = true) (hin : ∀ w ∈ u_ws R_M F_M 10, w ∈ Ts) (hown : s.vm.findClass own = some m.cls) (hK : va_K D classes (mT cJ cZ) s) (hP : va_P D classes (mW ad cJ cZ co r w so) H) (hD : va_D A0 (mW ad cJ cZ co r w so)) (hS : va_S A0 H0 H locs) (hlink : (Cond.fieldLink own index "ValueSieveModel" "code" "I").before args s = true) (hdg : decode cc pc = .ok (.putfield index, 3)) (kk : ∀ (H1 : Heap) (locs1 : List Loc), va_P D classes (mW ad cJ cZ x r w so) H1 → va_D A0 (mW ad cJ cZ x r w so) → va_S A0 H0 H1 locs1 → W p l e R s m args below meth c H1 locs1 cells slots Q (F0 m (pc + 3) ls rest)) : W p l e R s m args below meth c H locs cells slots Q (F0 m pc ls (.int x :: .ref (ad 0) :: rest)) :=
  va_put (ci := 2) (C := R_M) (T := F_M) (N := 10) (ty := .int) hexec hb hts hin t_M t_M_ok n_M hown hK hP hD hS 0 rfl rfl 0 (by decide) hlink (fun _ h9 => h9) rfl (by decide +kernel) rfl rfl (Nat.le_of_ble_eq_true rfl) hdg (fun H1 locs1 h1 h2 h3 => kk H1 locs1 h1 h2 h3)
theorem mp_s {x : Int32} {own : String} {index : Nat} {Ts : List Cond} (hexec : p.tables.exec = Jvm.exec) (hb : c.code = cc) (hts : ∀ w ∈ Ts, w.before args s = true) (hin : ∀ w ∈ u_ws R_M F_M 10, w ∈ Ts) (hown : s.vm.findClass own = some m.cls) (hK : va_K D classes (mT cJ cZ) s) (hP : va_P D classes (mW ad cJ cZ co r w so) H) (hD : va_D A0 (mW ad cJ cZ co r w so)) (hS : va_S A0 H0 H locs) (hlink : (Cond.fieldLink own index "ValueSieveModel" "strays" "I").before args s = true) (hdg : decode cc pc = .ok (.putfield index, 3)) (kk : ∀ (H1 : Heap) (locs1 : List Loc), va_P D classes (mW ad cJ cZ co r w x) H1 → va_D A0 (mW ad cJ cZ co r w x) → va_S A0 H0 H1 locs1 → W p l e R s m args below meth c H1 locs1 cells slots Q (F0 m (pc + 3) ls rest)) : W p l e R s m args below meth c H locs cells slots Q (F0 m pc ls (.int x :: .ref (ad 0) :: rest)) :=
  va_put (ci := 2) (C := R_M) (T := F_M) (N := 10) (ty := .int) hexec hb hts hin t_M t_M_ok n_M hown hK hP hD hS 0 rfl rfl 9 (by decide) hlink (fun _ h9 => h9) rfl (by decide +kernel) rfl rfl (Nat.le_of_ble_eq_true rfl) hdg (fun H1 locs1 h1 h2 h3 => kk H1 locs1 h1 h2 h3)
theorem mm_v {T : Type} {F : T} {wc : va_W} {w1 : T → va_W} (hr : va_Run p l e R s m args below meth c H locs cells slots 0 0 (F0 m pc ls st0) rest (va_Qv (fun _ : Unit => True) (mB D (va_A wc H.size) (w1 F)) (va_A wc H.size) a) (va_A wc H.size)) (hD : va_D A0 wc) (hS : va_S A0 H0 H locs) (hA : ∀ q, H0.size ≤ q → A0 q)
    (kk : ∀ (g : T), F = g → ∀ (H1 : Heap) (locs1 : List Loc), va_P D classes (w1 g) H1 → va_D A0 (w1 g) → va_S A0 H0 H1 locs1 → W p l e R s m args below meth c H1 locs1 cells slots Q (F0 m (pc + 3) ls rest)) : W p l e R s m args below meth c H locs cells slots Q (F0 m pc ls st0) := by
  have hF : ∀ q, va_A wc H.size q → A0 q := fun q h => by
    rcases h with ⟨k, e9, h⟩ | h
    · exact hD.2 k _ h
    · exact hA q (Nat.le_trans hS.1 h)
  refine va_callv hr hS (fun q _ h => hF q h) hF (fun u t H1 locs1 ht hvm hw hBB hz1 hk1 hS1 => ?_)
  obtain ⟨hP1, hD1⟩ := hBB
  rw [ht] at hP1
  exact kk F rfl H1 locs1 hP1 (hD1.weaken (fun k q _ h => hF q.1 h)) hS1
theorem mm_z {S : Type} {F : Bool × S} {wc : va_W} {w1 : Bool × S → va_W} (hr : va_Run p l e R s m args below meth c H locs cells slots 0 0 (F0 m pc ls st0) rest (va_Qi (fun r9 (_ : Unit) => r9 = bI F.1) (mB D (va_A wc H.size) (w1 F)) (va_A wc H.size) a) (va_A wc H.size)) (hD : va_D A0 wc) (hS : va_S A0 H0 H locs) (hA : ∀ q, H0.size ≤ q → A0 q)
    (kk : ∀ (g : Bool × S), F = g → ∀ (H1 : Heap) (locs1 : List Loc), va_P D classes (w1 g) H1 → va_D A0 (w1 g) → va_S A0 H0 H1 locs1 → W p l e R s m args below meth c H1 locs1 cells slots Q (F0 m (pc + 3) ls (.int (bI g.1) :: rest))) : W p l e R s m args below meth c H locs cells slots Q (F0 m pc ls st0) := by
  have hF : ∀ q, va_A wc H.size q → A0 q := fun q h => by
    rcases h with ⟨k, e9, h⟩ | h
    · exact hD.2 k _ h
    · exact hA q (Nat.le_trans hS.1 h)
  refine va_calli hr hS (fun q _ h => hF q h) hF (fun r9 u t H1 locs1 ht hvm hw hBB hz1 hk1 hS1 => ?_)
  obtain ⟨hP1, hD1⟩ := hBB
  rw [ht] at hP1
  cases hw
  exact kk F rfl H1 locs1 hP1 (hD1.weaken (fun k q _ h => hF q.1 h)) hS1
theorem mm_i {S : Type} {F : Int32 × S} {wc : va_W} {w1 : Int32 × S → va_W} (hr : va_Run p l e R s m args below meth c H locs cells slots 0 0 (F0 m pc ls st0) rest (va_Qi (fun r9 (_ : Unit) => r9 = F.1) (mB D (va_A wc H.size) (w1 F)) (va_A wc H.size) a) (va_A wc H.size)) (hD : va_D A0 wc) (hS : va_S A0 H0 H locs) (hA : ∀ q, H0.size ≤ q → A0 q)
    (kk : ∀ (g : Int32 × S), F = g → ∀ (H1 : Heap) (locs1 : List Loc), va_P D classes (w1 g) H1 → va_D A0 (w1 g) → va_S A0 H0 H1 locs1 → W p l e R s m args below meth c H1 locs1 cells slots Q (F0 m (pc + 3) ls (.int g.1 :: rest))) : W p l e R s m args below meth c H locs cells slots Q (F0 m pc ls st0) := by
  have hF : ∀ q, va_A wc H.size q → A0 q := fun q h => by
    rcases h with ⟨k, e9, h⟩ | h
    · exact hD.2 k _ h
    · exact hA q (Nat.le_trans hS.1 h)
  refine va_calli hr hS (fun q _ h => hF q h) hF (fun r9 u t H1 locs1 ht hvm hw hBB hz1 hk1 hS1 => ?_)
  obtain ⟨hP1, hD1⟩ := hBB
  rw [ht] at hP1
  cases hw
  exact kk F rfl H1 locs1 hP1 (hD1.weaken (fun k q _ h => hF q.1 h)) hS1
theorem top_i {x y : Int32} (h : x = y) (k : W p l e R s m args below meth c H locs cells slots Q (F0 m pc ls (.int y :: rest))) : W p l e R s m args below meth c H locs cells slots Q (F0 m pc ls (.int x :: rest)) := h ▸ k
theorem top_b {b : Bool} (k : ∀ z : Bool, z = b → W p l e R s m args below meth c H locs cells slots Q (F0 m pc ls (.int (bI z) :: rest))) : W p l e R s m args below meth c H locs cells slots Q (F0 m pc ls (.int (bI b) :: rest)) := k b rfl
theorem bI0 (b : Bool) : bI b = 0 ↔ ¬ b = true := by cases b <;> simp [bI]
theorem wz_eq {b : Bool} (hexec : p.tables.exec = Jvm.exec) (hb : c.code = cc) {off : Int} {tgt : Nat} (d1 : decode cc pc = .ok (.ifCond .eq off, 3)) (ht : (pc : Int) + off = (tgt : Int)) (kt : ¬ b = true → W p l e R s m args below meth c H locs cells slots Q (F0 m tgt ls rest)) (kf : b = true → W p l e R s m args below meth c H locs cells slots Q (F0 m (pc + 3) ls rest)) : W p l e R s m args below meth c H locs cells slots Q (F0 m pc ls (.int (bI b) :: rest)) :=
  lv_if_eq hexec hb d1 ht (fun h => kt ((bI0 b).mp h)) (fun h => kf (Decidable.byContradiction (fun q => h ((bI0 b).mpr q))))
theorem wz_ne {b : Bool} (hexec : p.tables.exec = Jvm.exec) (hb : c.code = cc) {off : Int} {tgt : Nat} (d1 : decode cc pc = .ok (.ifCond .ne off, 3)) (ht : (pc : Int) + off = (tgt : Int)) (kt : b = true → W p l e R s m args below meth c H locs cells slots Q (F0 m tgt ls rest)) (kf : ¬ b = true → W p l e R s m args below meth c H locs cells slots Q (F0 m (pc + 3) ls rest)) : W p l e R s m args below meth c H locs cells slots Q (F0 m pc ls (.int (bI b) :: rest)) :=
  lv_if_ne hexec hb d1 ht (fun h => kt (Decidable.byContradiction (fun q => h ((bI0 b).mpr q)))) (fun h => kf ((bI0 b).mp h))
end MROWS
theorem dn_step {x : Int32} {n : Nat} (e : ¬ x < 0) (h : (x.toInt + 1).toNat < n + 1) : ((x + (-1)).toInt + 1).toNat < n := by
  rw [Int32.lt_iff_toInt_lt, Int32.toInt_zero] at e
  have h1 := Int32.toInt_lt x
  have h2 : (x + (-1)).toInt = x.toInt - 1 := by
    rw [Int32.toInt_add, show (-1 : Int32).toInt = -1 by decide]
    rw [Int.bmod_eq_of_le (by omega) (by omega)]
    omega
  rw [h2]
  omega
theorem up_step {x : Int32} {n : Nat} (e : ¬ 64 ≤ x) (h : (64 - x.toInt).toNat < n + 1) : (64 - (x + 1).toInt).toNat < n := by
  rw [Int32.le_iff_toInt_le, show (64 : Int32).toInt = 64 by decide] at e
  have h1 := Int32.le_toInt x
  have h2 : (x + 1).toInt = x.toInt + 1 := by
    rw [Int32.toInt_add, show (1 : Int32).toInt = 1 by decide]
    rw [Int.bmod_eq_of_le (by omega) (by omega)]
  rw [h2]
  omega
