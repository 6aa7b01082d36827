/-! the law's words -/
def pickW (t : List Cond) (is : List Nat) : List Cond := is.filterMap (fun i => t[i]?)
theorem pickW_in {t : List Cond} {is : List Nat} : ∀ w ∈ pickW t is, w ∈ t := fun w h => by
  obtain ⟨i, -, h⟩ := List.mem_filterMap.mp h
  exact List.mem_of_getElem? h
theorem acW {a : Cond} {l t : List Cond} (h1 : a ∈ t) (h2 : ∀ w ∈ l, w ∈ t) : ∀ w ∈ a :: l, w ∈ t := fun w h => (List.mem_cons.mp h).elim (fun e => e ▸ h1) (h2 w)
set_option maxRecDepth 100000 in
theorem tM0 : (Cond.initialized R_M : Cond) ∈ lw_tbl := List.mem_of_getElem? (i := 50) rfl
set_option maxRecDepth 100000 in
theorem tM1 : (Cond.instanceMethod objectInit : Cond) ∈ lw_tbl := List.mem_of_getElem? (i := 67) rfl
set_option maxRecDepth 100000 in
theorem tM2 : (Cond.code objectInit ⟨#[0xb1]⟩ 1 none : Cond) ∈ lw_tbl := List.mem_of_getElem? (i := 68) rfl
set_option maxRecDepth 100000 in
theorem tM3 : (Cond.arrayClass .long : Cond) ∈ lw_tbl := List.mem_of_getElem? (i := 117) rfl
set_option maxRecDepth 100000 in
theorem tM4 : (Cond.arrayClass .byte : Cond) ∈ lw_tbl := List.mem_of_getElem? (i := 218) rfl
set_option maxRecDepth 100000 in
theorem tM5 : (Cond.instantiable R_M 10 : Cond) ∈ lw_tbl := List.mem_of_getElem? (i := 620) rfl
set_option maxRecDepth 100000 in
theorem tM6 : (Cond.instanceMethod y_M_init : Cond) ∈ lw_tbl := List.mem_of_getElem? (i := 622) rfl
set_option maxRecDepth 100000 in
theorem tM7 : (Cond.code y_M_init b_M_init 1 none : Cond) ∈ lw_tbl := List.mem_of_getElem? (i := 623) rfl
set_option maxRecDepth 100000 in
theorem tM8 : (Cond.methodLink R_M 1 objectInit : Cond) ∈ lw_tbl := List.mem_of_getElem? (i := 624) rfl
set_option maxRecDepth 100000 in
theorem tM9 : (Cond.fieldLink R_M 35 "ValueSieveModel" "code" "I" : Cond) ∈ lw_tbl := List.mem_of_getElem? (i := 625) rfl
set_option maxRecDepth 100000 in
theorem tM10 : (Cond.fieldLink R_M 7 "ValueSieveModel" "bits" "[J" : Cond) ∈ lw_tbl := List.mem_of_getElem? (i := 626) rfl
set_option maxRecDepth 100000 in
theorem tM11 : (Cond.fieldLink R_M 13 "ValueSieveModel" "open" "[J" : Cond) ∈ lw_tbl := List.mem_of_getElem? (i := 627) rfl
set_option maxRecDepth 100000 in
theorem tM12 : (Cond.fieldLink R_M 16 "ValueSieveModel" "low" "[J" : Cond) ∈ lw_tbl := List.mem_of_getElem? (i := 628) rfl
set_option maxRecDepth 100000 in
theorem tM13 : (Cond.fieldLink R_M 19 "ValueSieveModel" "high" "[J" : Cond) ∈ lw_tbl := List.mem_of_getElem? (i := 629) rfl
set_option maxRecDepth 100000 in
theorem tM14 : (Cond.fieldLink R_M 22 "ValueSieveModel" "least" "[J" : Cond) ∈ lw_tbl := List.mem_of_getElem? (i := 630) rfl
set_option maxRecDepth 100000 in
theorem tM15 : (Cond.fieldLink R_M 25 "ValueSieveModel" "greatest" "[J" : Cond) ∈ lw_tbl := List.mem_of_getElem? (i := 631) rfl
set_option maxRecDepth 100000 in
theorem tM16 : (Cond.fieldLink R_M 28 "ValueSieveModel" "empty" "[Z" : Cond) ∈ lw_tbl := List.mem_of_getElem? (i := 632) rfl
set_option maxRecDepth 100000 in
theorem tM17 : (Cond.fieldLink R_M 32 "ValueSieveModel" "witness" "[J" : Cond) ∈ lw_tbl := List.mem_of_getElem? (i := 633) rfl
set_option maxRecDepth 100000 in
theorem tM18 : (Cond.fieldLink R_M 87 "ValueSieveModel" "strays" "I" : Cond) ∈ lw_tbl := List.mem_of_getElem? (i := 634) rfl
set_option maxRecDepth 100000 in
theorem tM19 : (Cond.lays R_M "ValueSieveModel" "code" "I" : Cond) ∈ lw_tbl := List.mem_of_getElem? (i := 635) rfl
set_option maxRecDepth 100000 in
theorem tM20 : (Cond.laysFinal R_M "ValueSieveModel" "bits" "[J" : Cond) ∈ lw_tbl := List.mem_of_getElem? (i := 637) rfl
set_option maxRecDepth 100000 in
theorem tM21 : (Cond.laysFinal R_M "ValueSieveModel" "open" "[J" : Cond) ∈ lw_tbl := List.mem_of_getElem? (i := 639) rfl
set_option maxRecDepth 100000 in
theorem tM22 : (Cond.laysFinal R_M "ValueSieveModel" "low" "[J" : Cond) ∈ lw_tbl := List.mem_of_getElem? (i := 641) rfl
set_option maxRecDepth 100000 in
theorem tM23 : (Cond.laysFinal R_M "ValueSieveModel" "high" "[J" : Cond) ∈ lw_tbl := List.mem_of_getElem? (i := 643) rfl
set_option maxRecDepth 100000 in
theorem tM24 : (Cond.laysFinal R_M "ValueSieveModel" "least" "[J" : Cond) ∈ lw_tbl := List.mem_of_getElem? (i := 645) rfl
set_option maxRecDepth 100000 in
theorem tM25 : (Cond.laysFinal R_M "ValueSieveModel" "greatest" "[J" : Cond) ∈ lw_tbl := List.mem_of_getElem? (i := 647) rfl
set_option maxRecDepth 100000 in
theorem tM26 : (Cond.laysFinal R_M "ValueSieveModel" "empty" "[Z" : Cond) ∈ lw_tbl := List.mem_of_getElem? (i := 649) rfl
set_option maxRecDepth 100000 in
theorem tM27 : (Cond.laysFinal R_M "ValueSieveModel" "witness" "[J" : Cond) ∈ lw_tbl := List.mem_of_getElem? (i := 651) rfl
set_option maxRecDepth 100000 in
theorem tM28 : (Cond.lays R_M "ValueSieveModel" "strays" "I" : Cond) ∈ lw_tbl := List.mem_of_getElem? (i := 653) rfl
set_option maxRecDepth 100000 in
theorem tM29 : (Cond.arrayClass .boolean : Cond) ∈ lw_tbl := List.mem_of_getElem? (i := 656) rfl
set_option maxRecDepth 100000 in
theorem tM30 : (Cond.instanceMethod y_M_thrown : Cond) ∈ lw_tbl := List.mem_of_getElem? (i := 658) rfl
set_option maxRecDepth 100000 in
theorem tM31 : (Cond.selects R_M y_M_thrown y_M_thrown : Cond) ∈ lw_tbl := List.mem_of_getElem? (i := 659) rfl
set_option maxRecDepth 100000 in
theorem tM32 : (Cond.code y_M_thrown b_M_thrown 1 (some .int) : Cond) ∈ lw_tbl := List.mem_of_getElem? (i := 660) rfl
set_option maxRecDepth 100000 in
theorem tM33 : (Cond.instanceMethod y_M_any : Cond) ∈ lw_tbl := List.mem_of_getElem? (i := 662) rfl
set_option maxRecDepth 100000 in
theorem tM34 : (Cond.selects R_M y_M_any y_M_any : Cond) ∈ lw_tbl := List.mem_of_getElem? (i := 663) rfl
set_option maxRecDepth 100000 in
theorem tM35 : (Cond.code y_M_any b_M_any 4 none : Cond) ∈ lw_tbl := List.mem_of_getElem? (i := 664) rfl
set_option maxRecDepth 100000 in
theorem tM36 : (Cond.methodLink R_M 98 y_M_noPlace : Cond) ∈ lw_tbl := List.mem_of_getElem? (i := 665) rfl
set_option maxRecDepth 100000 in
theorem tM37 : (Cond.instanceMethod y_M_noPlace : Cond) ∈ lw_tbl := List.mem_of_getElem? (i := 667) rfl
set_option maxRecDepth 100000 in
theorem tM38 : (Cond.code y_M_noPlace b_M_noPlace 4 (some .boolean) : Cond) ∈ lw_tbl := List.mem_of_getElem? (i := 668) rfl
set_option maxRecDepth 100000 in
theorem tM39 : (Cond.methodLink R_M 102 y_M_nothingSaid : Cond) ∈ lw_tbl := List.mem_of_getElem? (i := 669) rfl
set_option maxRecDepth 100000 in
theorem tM40 : (Cond.instanceMethod y_M_nothingSaid : Cond) ∈ lw_tbl := List.mem_of_getElem? (i := 671) rfl
set_option maxRecDepth 100000 in
theorem tM41 : (Cond.code y_M_nothingSaid b_M_nothingSaid 2 none : Cond) ∈ lw_tbl := List.mem_of_getElem? (i := 672) rfl
set_option maxRecDepth 100000 in
theorem tM42 : (Cond.constantLong R_M 49 (-1) : Cond) ∈ lw_tbl := List.mem_of_getElem? (i := 673) rfl
set_option maxRecDepth 100000 in
theorem tM43 : (Cond.constantLong R_M 54 (-9223372036854775808) : Cond) ∈ lw_tbl := List.mem_of_getElem? (i := 674) rfl
set_option maxRecDepth 100000 in
theorem tM44 : (Cond.constantLong R_M 56 (9223372036854775807) : Cond) ∈ lw_tbl := List.mem_of_getElem? (i := 675) rfl
set_option maxRecDepth 100000 in
theorem tM45 : (Cond.methodLink R_M 105 y_M_put : Cond) ∈ lw_tbl := List.mem_of_getElem? (i := 676) rfl
set_option maxRecDepth 100000 in
theorem tM46 : (Cond.instanceMethod y_M_put : Cond) ∈ lw_tbl := List.mem_of_getElem? (i := 678) rfl
set_option maxRecDepth 100000 in
theorem tM47 : (Cond.code y_M_put b_M_put 5 none : Cond) ∈ lw_tbl := List.mem_of_getElem? (i := 679) rfl
set_option maxRecDepth 100000 in
theorem tM48 : (Cond.methodLink R_M 90 y_M_copy : Cond) ∈ lw_tbl := List.mem_of_getElem? (i := 680) rfl
set_option maxRecDepth 100000 in
theorem tM49 : (Cond.instanceMethod y_M_copy : Cond) ∈ lw_tbl := List.mem_of_getElem? (i := 682) rfl
set_option maxRecDepth 100000 in
theorem tM50 : (Cond.code y_M_copy b_M_copy 3 none : Cond) ∈ lw_tbl := List.mem_of_getElem? (i := 683) rfl
set_option maxRecDepth 100000 in
theorem tM51 : (Cond.methodLink R_M 94 y_M_look : Cond) ∈ lw_tbl := List.mem_of_getElem? (i := 684) rfl
set_option maxRecDepth 100000 in
theorem tM52 : (Cond.instanceMethod y_M_look : Cond) ∈ lw_tbl := List.mem_of_getElem? (i := 686) rfl
set_option maxRecDepth 100000 in
theorem tM53 : (Cond.code y_M_look b_M_look 2 none : Cond) ∈ lw_tbl := List.mem_of_getElem? (i := 687) rfl
set_option maxRecDepth 100000 in
theorem tM54 : (Cond.methodLink R_M 83 y_M_isNumber : Cond) ∈ lw_tbl := List.mem_of_getElem? (i := 688) rfl
set_option maxRecDepth 100000 in
theorem tM55 : (Cond.instanceMethod y_M_isNumber : Cond) ∈ lw_tbl := List.mem_of_getElem? (i := 690) rfl
set_option maxRecDepth 100000 in
theorem tM56 : (Cond.code y_M_isNumber b_M_isNumber 4 (some .boolean) : Cond) ∈ lw_tbl := List.mem_of_getElem? (i := 691) rfl
set_option maxRecDepth 100000 in
theorem tM57 : (Cond.methodLink R_M 39 y_M_below : Cond) ∈ lw_tbl := List.mem_of_getElem? (i := 692) rfl
set_option maxRecDepth 100000 in
theorem tM58 : (Cond.static y_M_below : Cond) ∈ lw_tbl := List.mem_of_getElem? (i := 693) rfl
set_option maxRecDepth 100000 in
theorem tM59 : (Cond.code y_M_below b_M_below 4 (some .boolean) : Cond) ∈ lw_tbl := List.mem_of_getElem? (i := 694) rfl
set_option maxRecDepth 100000 in
theorem tM60 : (Cond.instanceMethod y_M_constant : Cond) ∈ lw_tbl := List.mem_of_getElem? (i := 696) rfl
set_option maxRecDepth 100000 in
theorem tM61 : (Cond.selects R_M y_M_constant y_M_constant : Cond) ∈ lw_tbl := List.mem_of_getElem? (i := 697) rfl
set_option maxRecDepth 100000 in
theorem tM62 : (Cond.code y_M_constant b_M_constant 4 none : Cond) ∈ lw_tbl := List.mem_of_getElem? (i := 698) rfl
set_option maxRecDepth 100000 in
theorem tM63 : (Cond.methodLink R_M 109 y_M_single : Cond) ∈ lw_tbl := List.mem_of_getElem? (i := 699) rfl
set_option maxRecDepth 100000 in
theorem tM64 : (Cond.instanceMethod y_M_single : Cond) ∈ lw_tbl := List.mem_of_getElem? (i := 701) rfl
set_option maxRecDepth 100000 in
theorem tM65 : (Cond.code y_M_single b_M_single 4 none : Cond) ∈ lw_tbl := List.mem_of_getElem? (i := 702) rfl
set_option maxRecDepth 100000 in
theorem tM66 : (Cond.instanceMethod y_M_between : Cond) ∈ lw_tbl := List.mem_of_getElem? (i := 704) rfl
set_option maxRecDepth 100000 in
theorem tM67 : (Cond.selects R_M y_M_between y_M_between : Cond) ∈ lw_tbl := List.mem_of_getElem? (i := 705) rfl
set_option maxRecDepth 100000 in
theorem tM68 : (Cond.code y_M_between b_M_between 9 none : Cond) ∈ lw_tbl := List.mem_of_getElem? (i := 706) rfl
set_option maxRecDepth 100000 in
theorem tM69 : (Cond.methodLink R_M 113 y_M_tighten : Cond) ∈ lw_tbl := List.mem_of_getElem? (i := 707) rfl
set_option maxRecDepth 100000 in
theorem tM70 : (Cond.instanceMethod y_M_tighten : Cond) ∈ lw_tbl := List.mem_of_getElem? (i := 709) rfl
set_option maxRecDepth 100000 in
theorem tM71 : (Cond.code y_M_tighten b_M_tighten 21 none : Cond) ∈ lw_tbl := List.mem_of_getElem? (i := 710) rfl
set_option maxRecDepth 100000 in
theorem tM72 : (Cond.methodLink R_M 79 y_M_hasAny : Cond) ∈ lw_tbl := List.mem_of_getElem? (i := 711) rfl
set_option maxRecDepth 100000 in
theorem tM73 : (Cond.instanceMethod y_M_hasAny : Cond) ∈ lw_tbl := List.mem_of_getElem? (i := 713) rfl
set_option maxRecDepth 100000 in
theorem tM74 : (Cond.code y_M_hasAny b_M_hasAny 6 (some .boolean) : Cond) ∈ lw_tbl := List.mem_of_getElem? (i := 714) rfl
set_option maxRecDepth 100000 in
theorem tM75 : (Cond.methodLink R_M 75 y_M_has1 : Cond) ∈ lw_tbl := List.mem_of_getElem? (i := 715) rfl
set_option maxRecDepth 100000 in
theorem tM76 : (Cond.instanceMethod y_M_has1 : Cond) ∈ lw_tbl := List.mem_of_getElem? (i := 717) rfl
set_option maxRecDepth 100000 in
theorem tM77 : (Cond.code y_M_has1 b_M_has1 11 (some .boolean) : Cond) ∈ lw_tbl := List.mem_of_getElem? (i := 718) rfl
set_option maxRecDepth 100000 in
theorem tM78 : (Cond.methodLink R_M 71 y_M_end_ : Cond) ∈ lw_tbl := List.mem_of_getElem? (i := 719) rfl
set_option maxRecDepth 100000 in
theorem tM79 : (Cond.instanceMethod y_M_end_ : Cond) ∈ lw_tbl := List.mem_of_getElem? (i := 721) rfl
set_option maxRecDepth 100000 in
theorem tM80 : (Cond.code y_M_end_ b_M_end_ 14 (some .long) : Cond) ∈ lw_tbl := List.mem_of_getElem? (i := 722) rfl
set_option maxRecDepth 100000 in
theorem tM81 : (Cond.methodLink R_M 58 y_M_larger : Cond) ∈ lw_tbl := List.mem_of_getElem? (i := 723) rfl
set_option maxRecDepth 100000 in
theorem tM82 : (Cond.static y_M_larger : Cond) ∈ lw_tbl := List.mem_of_getElem? (i := 724) rfl
set_option maxRecDepth 100000 in
theorem tM83 : (Cond.code y_M_larger b_M_larger 4 (some .long) : Cond) ∈ lw_tbl := List.mem_of_getElem? (i := 725) rfl
set_option maxRecDepth 100000 in
theorem tM84 : (Cond.methodLink R_M 61 y_M_lesser : Cond) ∈ lw_tbl := List.mem_of_getElem? (i := 726) rfl
set_option maxRecDepth 100000 in
theorem tM85 : (Cond.static y_M_lesser : Cond) ∈ lw_tbl := List.mem_of_getElem? (i := 727) rfl
set_option maxRecDepth 100000 in
theorem tM86 : (Cond.code y_M_lesser b_M_lesser 4 (some .long) : Cond) ∈ lw_tbl := List.mem_of_getElem? (i := 728) rfl
set_option maxRecDepth 100000 in
theorem tM87 : (Cond.methodLink R_M 64 y_M_upFrom : Cond) ∈ lw_tbl := List.mem_of_getElem? (i := 729) rfl
set_option maxRecDepth 100000 in
theorem tM88 : (Cond.static y_M_upFrom : Cond) ∈ lw_tbl := List.mem_of_getElem? (i := 730) rfl
set_option maxRecDepth 100000 in
theorem tM89 : (Cond.code y_M_upFrom b_M_upFrom 13 (some .long) : Cond) ∈ lw_tbl := List.mem_of_getElem? (i := 731) rfl
set_option maxRecDepth 100000 in
theorem tM90 : (Cond.methodLink R_M 68 y_M_downFrom : Cond) ∈ lw_tbl := List.mem_of_getElem? (i := 732) rfl
set_option maxRecDepth 100000 in
theorem tM91 : (Cond.static y_M_downFrom : Cond) ∈ lw_tbl := List.mem_of_getElem? (i := 733) rfl
set_option maxRecDepth 100000 in
theorem tM92 : (Cond.code y_M_downFrom b_M_downFrom 13 (some .long) : Cond) ∈ lw_tbl := List.mem_of_getElem? (i := 734) rfl
set_option maxRecDepth 100000 in
theorem tM93 : (Cond.instanceMethod y_M_pattern : Cond) ∈ lw_tbl := List.mem_of_getElem? (i := 736) rfl
set_option maxRecDepth 100000 in
theorem tM94 : (Cond.selects R_M y_M_pattern y_M_pattern : Cond) ∈ lw_tbl := List.mem_of_getElem? (i := 737) rfl
set_option maxRecDepth 100000 in
theorem tM95 : (Cond.code y_M_pattern b_M_pattern 8 none : Cond) ∈ lw_tbl := List.mem_of_getElem? (i := 738) rfl
set_option maxRecDepth 100000 in
theorem tM96 : (Cond.instanceMethod y_M_cut : Cond) ∈ lw_tbl := List.mem_of_getElem? (i := 740) rfl
set_option maxRecDepth 100000 in
theorem tM97 : (Cond.selects R_M y_M_cut y_M_cut : Cond) ∈ lw_tbl := List.mem_of_getElem? (i := 741) rfl
set_option maxRecDepth 100000 in
theorem tM98 : (Cond.code y_M_cut b_M_cut 4 none : Cond) ∈ lw_tbl := List.mem_of_getElem? (i := 742) rfl
set_option maxRecDepth 100000 in
theorem tM99 : (Cond.methodLink R_M 120 y_M_cutRow : Cond) ∈ lw_tbl := List.mem_of_getElem? (i := 743) rfl
set_option maxRecDepth 100000 in
theorem tM100 : (Cond.instanceMethod y_M_cutRow : Cond) ∈ lw_tbl := List.mem_of_getElem? (i := 745) rfl
set_option maxRecDepth 100000 in
theorem tM101 : (Cond.code y_M_cutRow b_M_cutRow 6 none : Cond) ∈ lw_tbl := List.mem_of_getElem? (i := 746) rfl
set_option maxRecDepth 100000 in
theorem tM102 : (Cond.methodLink R_M 116 y_M_mask : Cond) ∈ lw_tbl := List.mem_of_getElem? (i := 747) rfl
set_option maxRecDepth 100000 in
theorem tM103 : (Cond.static y_M_mask : Cond) ∈ lw_tbl := List.mem_of_getElem? (i := 748) rfl
set_option maxRecDepth 100000 in
theorem tM104 : (Cond.code y_M_mask b_M_mask 1 (some .long) : Cond) ∈ lw_tbl := List.mem_of_getElem? (i := 749) rfl
set_option maxRecDepth 100000 in
theorem tM105 : (Cond.instanceMethod y_M_extend : Cond) ∈ lw_tbl := List.mem_of_getElem? (i := 751) rfl
set_option maxRecDepth 100000 in
theorem tM106 : (Cond.selects R_M y_M_extend y_M_extend : Cond) ∈ lw_tbl := List.mem_of_getElem? (i := 752) rfl
set_option maxRecDepth 100000 in
theorem tM107 : (Cond.code y_M_extend b_M_extend 4 none : Cond) ∈ lw_tbl := List.mem_of_getElem? (i := 753) rfl
set_option maxRecDepth 100000 in
theorem tM108 : (Cond.methodLink R_M 130 y_M_extendRow : Cond) ∈ lw_tbl := List.mem_of_getElem? (i := 754) rfl
set_option maxRecDepth 100000 in
theorem tM109 : (Cond.instanceMethod y_M_extendRow : Cond) ∈ lw_tbl := List.mem_of_getElem? (i := 756) rfl
set_option maxRecDepth 100000 in
theorem tM110 : (Cond.code y_M_extendRow b_M_extendRow 14 none : Cond) ∈ lw_tbl := List.mem_of_getElem? (i := 757) rfl
set_option maxRecDepth 100000 in
theorem tM111 : (Cond.instanceMethod y_M_swap : Cond) ∈ lw_tbl := List.mem_of_getElem? (i := 759) rfl
set_option maxRecDepth 100000 in
theorem tM112 : (Cond.selects R_M y_M_swap y_M_swap : Cond) ∈ lw_tbl := List.mem_of_getElem? (i := 760) rfl
set_option maxRecDepth 100000 in
theorem tM113 : (Cond.code y_M_swap b_M_swap 4 none : Cond) ∈ lw_tbl := List.mem_of_getElem? (i := 761) rfl
set_option maxRecDepth 100000 in
theorem tM114 : (Cond.methodLink R_M 133 y_M_swapRow : Cond) ∈ lw_tbl := List.mem_of_getElem? (i := 762) rfl
set_option maxRecDepth 100000 in
theorem tM115 : (Cond.instanceMethod y_M_swapRow : Cond) ∈ lw_tbl := List.mem_of_getElem? (i := 764) rfl
set_option maxRecDepth 100000 in
theorem tM116 : (Cond.code y_M_swapRow b_M_swapRow 4 none : Cond) ∈ lw_tbl := List.mem_of_getElem? (i := 765) rfl
set_option maxRecDepth 100000 in
theorem tM117 : (Cond.methodLink R_M 126 y_M_swapped : Cond) ∈ lw_tbl := List.mem_of_getElem? (i := 766) rfl
set_option maxRecDepth 100000 in
theorem tM118 : (Cond.static y_M_swapped : Cond) ∈ lw_tbl := List.mem_of_getElem? (i := 767) rfl
set_option maxRecDepth 100000 in
theorem tM119 : (Cond.code y_M_swapped b_M_swapped 6 (some .long) : Cond) ∈ lw_tbl := List.mem_of_getElem? (i := 768) rfl
set_option maxRecDepth 100000 in
theorem tM120 : (Cond.constantLong R_M 124 (255) : Cond) ∈ lw_tbl := List.mem_of_getElem? (i := 769) rfl
set_option maxRecDepth 100000 in
theorem tM121 : (Cond.instanceMethod y_M_operate : Cond) ∈ lw_tbl := List.mem_of_getElem? (i := 771) rfl
set_option maxRecDepth 100000 in
theorem tM122 : (Cond.selects R_M y_M_operate y_M_operate : Cond) ∈ lw_tbl := List.mem_of_getElem? (i := 772) rfl
set_option maxRecDepth 100000 in
theorem tM123 : (Cond.code y_M_operate b_M_operate 8 none : Cond) ∈ lw_tbl := List.mem_of_getElem? (i := 773) rfl
set_option maxRecDepth 100000 in
theorem tM124 : (Cond.methodLink R_M 199 y_M_apply : Cond) ∈ lw_tbl := List.mem_of_getElem? (i := 774) rfl
set_option maxRecDepth 100000 in
theorem tM125 : (Cond.instanceMethod y_M_apply : Cond) ∈ lw_tbl := List.mem_of_getElem? (i := 776) rfl
set_option maxRecDepth 100000 in
theorem tM126 : (Cond.code y_M_apply b_M_apply 3 none : Cond) ∈ lw_tbl := List.mem_of_getElem? (i := 777) rfl
set_option maxRecDepth 100000 in
theorem tM127 : (Cond.methodLink R_M 163 y_M_add : Cond) ∈ lw_tbl := List.mem_of_getElem? (i := 778) rfl
set_option maxRecDepth 100000 in
theorem tM128 : (Cond.instanceMethod y_M_add : Cond) ∈ lw_tbl := List.mem_of_getElem? (i := 780) rfl
set_option maxRecDepth 100000 in
theorem tM129 : (Cond.code y_M_add b_M_add 3 none : Cond) ∈ lw_tbl := List.mem_of_getElem? (i := 781) rfl
set_option maxRecDepth 100000 in
theorem tM130 : (Cond.methodLink R_M 139 y_M_sumBits : Cond) ∈ lw_tbl := List.mem_of_getElem? (i := 782) rfl
set_option maxRecDepth 100000 in
theorem tM131 : (Cond.instanceMethod y_M_sumBits : Cond) ∈ lw_tbl := List.mem_of_getElem? (i := 784) rfl
set_option maxRecDepth 100000 in
theorem tM132 : (Cond.code y_M_sumBits b_M_sumBits 19 none : Cond) ∈ lw_tbl := List.mem_of_getElem? (i := 785) rfl
set_option maxRecDepth 100000 in
theorem tM133 : (Cond.methodLink R_M 136 y_M_mayBe : Cond) ∈ lw_tbl := List.mem_of_getElem? (i := 786) rfl
set_option maxRecDepth 100000 in
theorem tM134 : (Cond.instanceMethod y_M_mayBe : Cond) ∈ lw_tbl := List.mem_of_getElem? (i := 788) rfl
set_option maxRecDepth 100000 in
theorem tM135 : (Cond.code y_M_mayBe b_M_mayBe 4 (some .boolean) : Cond) ∈ lw_tbl := List.mem_of_getElem? (i := 789) rfl
set_option maxRecDepth 100000 in
theorem tM136 : (Cond.methodLink R_M 143 y_M_sumIsLong : Cond) ∈ lw_tbl := List.mem_of_getElem? (i := 790) rfl
set_option maxRecDepth 100000 in
theorem tM137 : (Cond.static y_M_sumIsLong : Cond) ∈ lw_tbl := List.mem_of_getElem? (i := 791) rfl
set_option maxRecDepth 100000 in
theorem tM138 : (Cond.code y_M_sumIsLong b_M_sumIsLong 6 (some .boolean) : Cond) ∈ lw_tbl := List.mem_of_getElem? (i := 792) rfl
set_option maxRecDepth 100000 in
theorem tM139 : (Cond.methodLink R_M 166 y_M_subtract : Cond) ∈ lw_tbl := List.mem_of_getElem? (i := 793) rfl
set_option maxRecDepth 100000 in
theorem tM140 : (Cond.instanceMethod y_M_subtract : Cond) ∈ lw_tbl := List.mem_of_getElem? (i := 795) rfl
set_option maxRecDepth 100000 in
theorem tM141 : (Cond.code y_M_subtract b_M_subtract 3 none : Cond) ∈ lw_tbl := List.mem_of_getElem? (i := 796) rfl
set_option maxRecDepth 100000 in
theorem tM142 : (Cond.methodLink R_M 146 y_M_differenceIsLong : Cond) ∈ lw_tbl := List.mem_of_getElem? (i := 797) rfl
set_option maxRecDepth 100000 in
theorem tM143 : (Cond.static y_M_differenceIsLong : Cond) ∈ lw_tbl := List.mem_of_getElem? (i := 798) rfl
set_option maxRecDepth 100000 in
theorem tM144 : (Cond.code y_M_differenceIsLong b_M_differenceIsLong 6 (some .boolean) : Cond) ∈ lw_tbl := List.mem_of_getElem? (i := 799) rfl
set_option maxRecDepth 100000 in
theorem tM145 : (Cond.methodLink R_M 169 y_M_multiply : Cond) ∈ lw_tbl := List.mem_of_getElem? (i := 800) rfl
set_option maxRecDepth 100000 in
theorem tM146 : (Cond.instanceMethod y_M_multiply : Cond) ∈ lw_tbl := List.mem_of_getElem? (i := 802) rfl
set_option maxRecDepth 100000 in
theorem tM147 : (Cond.code y_M_multiply b_M_multiply 15 none : Cond) ∈ lw_tbl := List.mem_of_getElem? (i := 803) rfl
set_option maxRecDepth 100000 in
theorem tM148 : (Cond.methodLink R_M 149 y_M_lowest : Cond) ∈ lw_tbl := List.mem_of_getElem? (i := 804) rfl
set_option maxRecDepth 100000 in
theorem tM149 : (Cond.instanceMethod y_M_lowest : Cond) ∈ lw_tbl := List.mem_of_getElem? (i := 806) rfl
set_option maxRecDepth 100000 in
theorem tM150 : (Cond.code y_M_lowest b_M_lowest 4 (some .int) : Cond) ∈ lw_tbl := List.mem_of_getElem? (i := 807) rfl
set_option maxRecDepth 100000 in
theorem tM151 : (Cond.methodLink R_M 153 y_M_knowLowest : Cond) ∈ lw_tbl := List.mem_of_getElem? (i := 808) rfl
set_option maxRecDepth 100000 in
theorem tM152 : (Cond.instanceMethod y_M_knowLowest : Cond) ∈ lw_tbl := List.mem_of_getElem? (i := 810) rfl
set_option maxRecDepth 100000 in
theorem tM153 : (Cond.code y_M_knowLowest b_M_knowLowest 6 none : Cond) ∈ lw_tbl := List.mem_of_getElem? (i := 811) rfl
set_option maxRecDepth 100000 in
theorem tM154 : (Cond.methodLink R_M 51 y_M_fits : Cond) ∈ lw_tbl := List.mem_of_getElem? (i := 812) rfl
set_option maxRecDepth 100000 in
theorem tM155 : (Cond.static y_M_fits : Cond) ∈ lw_tbl := List.mem_of_getElem? (i := 813) rfl
set_option maxRecDepth 100000 in
theorem tM156 : (Cond.code y_M_fits b_M_fits 4 (some .boolean) : Cond) ∈ lw_tbl := List.mem_of_getElem? (i := 814) rfl
set_option maxRecDepth 100000 in
theorem tM157 : (Cond.methodLink R_M 45 y_M_quotient : Cond) ∈ lw_tbl := List.mem_of_getElem? (i := 815) rfl
set_option maxRecDepth 100000 in
theorem tM158 : (Cond.static y_M_quotient : Cond) ∈ lw_tbl := List.mem_of_getElem? (i := 816) rfl
set_option maxRecDepth 100000 in
theorem tM159 : (Cond.code y_M_quotient b_M_quotient 10 (some .long) : Cond) ∈ lw_tbl := List.mem_of_getElem? (i := 817) rfl
set_option maxRecDepth 100000 in
theorem tM160 : (Cond.constantLong R_M 43 (2) : Cond) ∈ lw_tbl := List.mem_of_getElem? (i := 818) rfl
set_option maxRecDepth 100000 in
theorem tM161 : (Cond.methodLink R_M 156 y_M_isLong : Cond) ∈ lw_tbl := List.mem_of_getElem? (i := 819) rfl
set_option maxRecDepth 100000 in
theorem tM162 : (Cond.static y_M_isLong : Cond) ∈ lw_tbl := List.mem_of_getElem? (i := 820) rfl
set_option maxRecDepth 100000 in
theorem tM163 : (Cond.code y_M_isLong b_M_isLong 11 (some .boolean) : Cond) ∈ lw_tbl := List.mem_of_getElem? (i := 821) rfl
set_option maxRecDepth 100000 in
theorem tM164 : (Cond.methodLink R_M 172 y_M_divide : Cond) ∈ lw_tbl := List.mem_of_getElem? (i := 822) rfl
set_option maxRecDepth 100000 in
theorem tM165 : (Cond.instanceMethod y_M_divide : Cond) ∈ lw_tbl := List.mem_of_getElem? (i := 824) rfl
set_option maxRecDepth 100000 in
theorem tM166 : (Cond.code y_M_divide b_M_divide 1 none : Cond) ∈ lw_tbl := List.mem_of_getElem? (i := 825) rfl
set_option maxRecDepth 100000 in
theorem tM167 : (Cond.methodLink R_M 175 y_M_remain : Cond) ∈ lw_tbl := List.mem_of_getElem? (i := 826) rfl
set_option maxRecDepth 100000 in
theorem tM168 : (Cond.instanceMethod y_M_remain : Cond) ∈ lw_tbl := List.mem_of_getElem? (i := 828) rfl
set_option maxRecDepth 100000 in
theorem tM169 : (Cond.code y_M_remain b_M_remain 1 none : Cond) ∈ lw_tbl := List.mem_of_getElem? (i := 829) rfl
set_option maxRecDepth 100000 in
theorem tM170 : (Cond.methodLink R_M 178 y_M_and_ : Cond) ∈ lw_tbl := List.mem_of_getElem? (i := 830) rfl
set_option maxRecDepth 100000 in
theorem tM171 : (Cond.instanceMethod y_M_and_ : Cond) ∈ lw_tbl := List.mem_of_getElem? (i := 832) rfl
set_option maxRecDepth 100000 in
theorem tM172 : (Cond.code y_M_and_ b_M_and_ 3 none : Cond) ∈ lw_tbl := List.mem_of_getElem? (i := 833) rfl
set_option maxRecDepth 100000 in
theorem tM173 : (Cond.methodLink R_M 181 y_M_or_ : Cond) ∈ lw_tbl := List.mem_of_getElem? (i := 834) rfl
set_option maxRecDepth 100000 in
theorem tM174 : (Cond.instanceMethod y_M_or_ : Cond) ∈ lw_tbl := List.mem_of_getElem? (i := 836) rfl
set_option maxRecDepth 100000 in
theorem tM175 : (Cond.code y_M_or_ b_M_or_ 1 none : Cond) ∈ lw_tbl := List.mem_of_getElem? (i := 837) rfl
set_option maxRecDepth 100000 in
theorem tM176 : (Cond.methodLink R_M 184 y_M_xor_ : Cond) ∈ lw_tbl := List.mem_of_getElem? (i := 838) rfl
set_option maxRecDepth 100000 in
theorem tM177 : (Cond.instanceMethod y_M_xor_ : Cond) ∈ lw_tbl := List.mem_of_getElem? (i := 840) rfl
set_option maxRecDepth 100000 in
theorem tM178 : (Cond.code y_M_xor_ b_M_xor_ 1 none : Cond) ∈ lw_tbl := List.mem_of_getElem? (i := 841) rfl
set_option maxRecDepth 100000 in
theorem tM179 : (Cond.methodLink R_M 187 y_M_left : Cond) ∈ lw_tbl := List.mem_of_getElem? (i := 842) rfl
set_option maxRecDepth 100000 in
theorem tM180 : (Cond.instanceMethod y_M_left : Cond) ∈ lw_tbl := List.mem_of_getElem? (i := 844) rfl
set_option maxRecDepth 100000 in
theorem tM181 : (Cond.code y_M_left b_M_left 3 none : Cond) ∈ lw_tbl := List.mem_of_getElem? (i := 845) rfl
set_option maxRecDepth 100000 in
theorem tM182 : (Cond.methodLink R_M 159 y_M_isSingle : Cond) ∈ lw_tbl := List.mem_of_getElem? (i := 846) rfl
set_option maxRecDepth 100000 in
theorem tM183 : (Cond.instanceMethod y_M_isSingle : Cond) ∈ lw_tbl := List.mem_of_getElem? (i := 848) rfl
set_option maxRecDepth 100000 in
theorem tM184 : (Cond.code y_M_isSingle b_M_isSingle 2 (some .boolean) : Cond) ∈ lw_tbl := List.mem_of_getElem? (i := 849) rfl
set_option maxRecDepth 100000 in
theorem tM185 : (Cond.methodLink R_M 190 y_M_right : Cond) ∈ lw_tbl := List.mem_of_getElem? (i := 850) rfl
set_option maxRecDepth 100000 in
theorem tM186 : (Cond.instanceMethod y_M_right : Cond) ∈ lw_tbl := List.mem_of_getElem? (i := 852) rfl
set_option maxRecDepth 100000 in
theorem tM187 : (Cond.code y_M_right b_M_right 3 none : Cond) ∈ lw_tbl := List.mem_of_getElem? (i := 853) rfl
set_option maxRecDepth 100000 in
theorem tM188 : (Cond.methodLink R_M 193 y_M_signedRight : Cond) ∈ lw_tbl := List.mem_of_getElem? (i := 854) rfl
set_option maxRecDepth 100000 in
theorem tM189 : (Cond.instanceMethod y_M_signedRight : Cond) ∈ lw_tbl := List.mem_of_getElem? (i := 856) rfl
set_option maxRecDepth 100000 in
theorem tM190 : (Cond.code y_M_signedRight b_M_signedRight 9 none : Cond) ∈ lw_tbl := List.mem_of_getElem? (i := 857) rfl
set_option maxRecDepth 100000 in
theorem tM191 : (Cond.methodLink R_M 202 y_M_reckon : Cond) ∈ lw_tbl := List.mem_of_getElem? (i := 858) rfl
set_option maxRecDepth 100000 in
theorem tM192 : (Cond.static y_M_reckon : Cond) ∈ lw_tbl := List.mem_of_getElem? (i := 859) rfl
set_option maxRecDepth 100000 in
theorem tM193 : (Cond.code y_M_reckon b_M_reckon 7 (some .long) : Cond) ∈ lw_tbl := List.mem_of_getElem? (i := 860) rfl
set_option maxRecDepth 100000 in
theorem tM194 : (Cond.methodLink R_M 196 y_M_rest : Cond) ∈ lw_tbl := List.mem_of_getElem? (i := 861) rfl
set_option maxRecDepth 100000 in
theorem tM195 : (Cond.static y_M_rest : Cond) ∈ lw_tbl := List.mem_of_getElem? (i := 862) rfl
set_option maxRecDepth 100000 in
theorem tM196 : (Cond.code y_M_rest b_M_rest 4 (some .long) : Cond) ∈ lw_tbl := List.mem_of_getElem? (i := 863) rfl
set_option maxRecDepth 100000 in
theorem tM197 : (Cond.constantLong R_M 206 (4294967295) : Cond) ∈ lw_tbl := List.mem_of_getElem? (i := 864) rfl
set_option maxRecDepth 100000 in
theorem tM198 : (Cond.instanceMethod y_M_join : Cond) ∈ lw_tbl := List.mem_of_getElem? (i := 866) rfl
set_option maxRecDepth 100000 in
theorem tM199 : (Cond.selects R_M y_M_join y_M_join : Cond) ∈ lw_tbl := List.mem_of_getElem? (i := 867) rfl
set_option maxRecDepth 100000 in
theorem tM200 : (Cond.code y_M_join b_M_join 5 none : Cond) ∈ lw_tbl := List.mem_of_getElem? (i := 868) rfl
set_option maxRecDepth 100000 in
theorem tM201 : (Cond.methodLink R_M 208 y_M_joinBits : Cond) ∈ lw_tbl := List.mem_of_getElem? (i := 869) rfl
set_option maxRecDepth 100000 in
theorem tM202 : (Cond.instanceMethod y_M_joinBits : Cond) ∈ lw_tbl := List.mem_of_getElem? (i := 871) rfl
set_option maxRecDepth 100000 in
theorem tM203 : (Cond.code y_M_joinBits b_M_joinBits 5 none : Cond) ∈ lw_tbl := List.mem_of_getElem? (i := 872) rfl
set_option maxRecDepth 100000 in
theorem tM204 : (Cond.instanceMethod y_M_widen : Cond) ∈ lw_tbl := List.mem_of_getElem? (i := 874) rfl
set_option maxRecDepth 100000 in
theorem tM205 : (Cond.selects R_M y_M_widen y_M_widen : Cond) ∈ lw_tbl := List.mem_of_getElem? (i := 875) rfl
set_option maxRecDepth 100000 in
theorem tM206 : (Cond.code y_M_widen b_M_widen 4 none : Cond) ∈ lw_tbl := List.mem_of_getElem? (i := 876) rfl
set_option maxRecDepth 100000 in
theorem tM207 : (Cond.instanceMethod y_M_branch : Cond) ∈ lw_tbl := List.mem_of_getElem? (i := 878) rfl
set_option maxRecDepth 100000 in
theorem tM208 : (Cond.selects R_M y_M_branch y_M_branch : Cond) ∈ lw_tbl := List.mem_of_getElem? (i := 879) rfl
set_option maxRecDepth 100000 in
theorem tM209 : (Cond.code y_M_branch b_M_branch 5 (some .boolean) : Cond) ∈ lw_tbl := List.mem_of_getElem? (i := 880) rfl
set_option maxRecDepth 100000 in
theorem tM210 : (Cond.methodLink R_M 236 y_M_noComparison : Cond) ∈ lw_tbl := List.mem_of_getElem? (i := 881) rfl
set_option maxRecDepth 100000 in
theorem tM211 : (Cond.instanceMethod y_M_noComparison : Cond) ∈ lw_tbl := List.mem_of_getElem? (i := 883) rfl
set_option maxRecDepth 100000 in
theorem tM212 : (Cond.code y_M_noComparison b_M_noComparison 4 (some .boolean) : Cond) ∈ lw_tbl := List.mem_of_getElem? (i := 884) rfl
set_option maxRecDepth 100000 in
theorem tM213 : (Cond.methodLink R_M 239 y_M_isSo : Cond) ∈ lw_tbl := List.mem_of_getElem? (i := 885) rfl
set_option maxRecDepth 100000 in
theorem tM214 : (Cond.static y_M_isSo : Cond) ∈ lw_tbl := List.mem_of_getElem? (i := 886) rfl
set_option maxRecDepth 100000 in
theorem tM215 : (Cond.code y_M_isSo b_M_isSo 5 (some .boolean) : Cond) ∈ lw_tbl := List.mem_of_getElem? (i := 887) rfl
set_option maxRecDepth 100000 in
theorem tM216 : (Cond.methodLink R_M 242 y_M_opposite : Cond) ∈ lw_tbl := List.mem_of_getElem? (i := 888) rfl
set_option maxRecDepth 100000 in
theorem tM217 : (Cond.static y_M_opposite : Cond) ∈ lw_tbl := List.mem_of_getElem? (i := 889) rfl
set_option maxRecDepth 100000 in
theorem tM218 : (Cond.code y_M_opposite b_M_opposite 1 (some .int) : Cond) ∈ lw_tbl := List.mem_of_getElem? (i := 890) rfl
set_option maxRecDepth 100000 in
theorem tM219 : (Cond.methodLink R_M 246 y_M_canBe : Cond) ∈ lw_tbl := List.mem_of_getElem? (i := 891) rfl
set_option maxRecDepth 100000 in
theorem tM220 : (Cond.instanceMethod y_M_canBe : Cond) ∈ lw_tbl := List.mem_of_getElem? (i := 893) rfl
set_option maxRecDepth 100000 in
theorem tM221 : (Cond.code y_M_canBe b_M_canBe 4 (some .boolean) : Cond) ∈ lw_tbl := List.mem_of_getElem? (i := 894) rfl
set_option maxRecDepth 100000 in
theorem tM222 : (Cond.methodLink R_M 233 y_M_refine : Cond) ∈ lw_tbl := List.mem_of_getElem? (i := 895) rfl
set_option maxRecDepth 100000 in
theorem tM223 : (Cond.instanceMethod y_M_refine : Cond) ∈ lw_tbl := List.mem_of_getElem? (i := 897) rfl
set_option maxRecDepth 100000 in
theorem tM224 : (Cond.code y_M_refine b_M_refine 2 none : Cond) ∈ lw_tbl := List.mem_of_getElem? (i := 898) rfl
set_option maxRecDepth 100000 in
theorem tM225 : (Cond.methodLink R_M 211 y_M_both : Cond) ∈ lw_tbl := List.mem_of_getElem? (i := 899) rfl
set_option maxRecDepth 100000 in
theorem tM226 : (Cond.instanceMethod y_M_both : Cond) ∈ lw_tbl := List.mem_of_getElem? (i := 901) rfl
set_option maxRecDepth 100000 in
theorem tM227 : (Cond.code y_M_both b_M_both 5 none : Cond) ∈ lw_tbl := List.mem_of_getElem? (i := 902) rfl
set_option maxRecDepth 100000 in
theorem tM228 : (Cond.methodLink R_M 214 y_M_lose : Cond) ∈ lw_tbl := List.mem_of_getElem? (i := 903) rfl
set_option maxRecDepth 100000 in
theorem tM229 : (Cond.instanceMethod y_M_lose : Cond) ∈ lw_tbl := List.mem_of_getElem? (i := 905) rfl
set_option maxRecDepth 100000 in
theorem tM230 : (Cond.code y_M_lose b_M_lose 5 none : Cond) ∈ lw_tbl := List.mem_of_getElem? (i := 906) rfl
set_option maxRecDepth 100000 in
theorem tM231 : (Cond.methodLink R_M 218 y_M_order : Cond) ∈ lw_tbl := List.mem_of_getElem? (i := 907) rfl
set_option maxRecDepth 100000 in
theorem tM232 : (Cond.instanceMethod y_M_order : Cond) ∈ lw_tbl := List.mem_of_getElem? (i := 909) rfl
set_option maxRecDepth 100000 in
theorem tM233 : (Cond.code y_M_order b_M_order 8 none : Cond) ∈ lw_tbl := List.mem_of_getElem? (i := 910) rfl
set_option maxRecDepth 100000 in
theorem tM234 : (Cond.methodLink R_M 222 y_M_orderLongs : Cond) ∈ lw_tbl := List.mem_of_getElem? (i := 911) rfl
set_option maxRecDepth 100000 in
theorem tM235 : (Cond.instanceMethod y_M_orderLongs : Cond) ∈ lw_tbl := List.mem_of_getElem? (i := 913) rfl
set_option maxRecDepth 100000 in
theorem tM236 : (Cond.code y_M_orderLongs b_M_orderLongs 12 none : Cond) ∈ lw_tbl := List.mem_of_getElem? (i := 914) rfl
set_option maxRecDepth 100000 in
theorem tM237 : (Cond.methodLink R_M 225 y_M_isOneBit : Cond) ∈ lw_tbl := List.mem_of_getElem? (i := 915) rfl
set_option maxRecDepth 100000 in
theorem tM238 : (Cond.static y_M_isOneBit : Cond) ∈ lw_tbl := List.mem_of_getElem? (i := 916) rfl
set_option maxRecDepth 100000 in
theorem tM239 : (Cond.code y_M_isOneBit b_M_isOneBit 2 (some .boolean) : Cond) ∈ lw_tbl := List.mem_of_getElem? (i := 917) rfl
set_option maxRecDepth 100000 in
theorem tM240 : (Cond.methodLink R_M 229 y_M_force : Cond) ∈ lw_tbl := List.mem_of_getElem? (i := 918) rfl
set_option maxRecDepth 100000 in
theorem tM241 : (Cond.instanceMethod y_M_force : Cond) ∈ lw_tbl := List.mem_of_getElem? (i := 920) rfl
set_option maxRecDepth 100000 in
theorem tM242 : (Cond.code y_M_force b_M_force 6 none : Cond) ∈ lw_tbl := List.mem_of_getElem? (i := 921) rfl
set_option maxRecDepth 100000 in
theorem tM243 : (Cond.instanceMethod y_M_decided : Cond) ∈ lw_tbl := List.mem_of_getElem? (i := 923) rfl
set_option maxRecDepth 100000 in
theorem tM244 : (Cond.selects R_M y_M_decided y_M_decided : Cond) ∈ lw_tbl := List.mem_of_getElem? (i := 924) rfl
set_option maxRecDepth 100000 in
theorem tM245 : (Cond.code y_M_decided b_M_decided 4 (some .int) : Cond) ∈ lw_tbl := List.mem_of_getElem? (i := 925) rfl
set_option maxRecDepth 100000 in
theorem tM246 : (Cond.instanceMethod y_M_within : Cond) ∈ lw_tbl := List.mem_of_getElem? (i := 927) rfl
set_option maxRecDepth 100000 in
theorem tM247 : (Cond.selects R_M y_M_within y_M_within : Cond) ∈ lw_tbl := List.mem_of_getElem? (i := 928) rfl
set_option maxRecDepth 100000 in
theorem tM248 : (Cond.code y_M_within b_M_within 4 (some .boolean) : Cond) ∈ lw_tbl := List.mem_of_getElem? (i := 929) rfl
set_option maxRecDepth 100000 in
theorem tM249 : (Cond.instanceMethod y_M_has0 : Cond) ∈ lw_tbl := List.mem_of_getElem? (i := 931) rfl
set_option maxRecDepth 100000 in
theorem tM250 : (Cond.selects R_M y_M_has0 y_M_has0 : Cond) ∈ lw_tbl := List.mem_of_getElem? (i := 932) rfl
set_option maxRecDepth 100000 in
theorem tM251 : (Cond.code y_M_has0 b_M_has0 4 (some .boolean) : Cond) ∈ lw_tbl := List.mem_of_getElem? (i := 933) rfl
set_option maxRecDepth 100000 in
theorem tM252 : (Cond.instanceMethod y_M_least : Cond) ∈ lw_tbl := List.mem_of_getElem? (i := 935) rfl
set_option maxRecDepth 100000 in
theorem tM253 : (Cond.selects R_M y_M_least y_M_least : Cond) ∈ lw_tbl := List.mem_of_getElem? (i := 936) rfl
set_option maxRecDepth 100000 in
theorem tM254 : (Cond.code y_M_least b_M_least 3 (some .long) : Cond) ∈ lw_tbl := List.mem_of_getElem? (i := 937) rfl
set_option maxRecDepth 100000 in
theorem tM255 : (Cond.instanceMethod y_M_greatest : Cond) ∈ lw_tbl := List.mem_of_getElem? (i := 939) rfl
set_option maxRecDepth 100000 in
theorem tM256 : (Cond.selects R_M y_M_greatest y_M_greatest : Cond) ∈ lw_tbl := List.mem_of_getElem? (i := 940) rfl
set_option maxRecDepth 100000 in
theorem tM257 : (Cond.code y_M_greatest b_M_greatest 3 (some .long) : Cond) ∈ lw_tbl := List.mem_of_getElem? (i := 941) rfl
set_option maxRecDepth 100000 in
theorem tM258 : (Cond.instanceMethod y_M_unknown : Cond) ∈ lw_tbl := List.mem_of_getElem? (i := 943) rfl
set_option maxRecDepth 100000 in
theorem tM259 : (Cond.selects R_M y_M_unknown y_M_unknown : Cond) ∈ lw_tbl := List.mem_of_getElem? (i := 944) rfl
set_option maxRecDepth 100000 in
theorem tM260 : (Cond.code y_M_unknown b_M_unknown 2 (some .long) : Cond) ∈ lw_tbl := List.mem_of_getElem? (i := 945) rfl
set_option maxRecDepth 100000 in
theorem tM261 : (Cond.instanceMethod y_M_witness : Cond) ∈ lw_tbl := List.mem_of_getElem? (i := 947) rfl
set_option maxRecDepth 100000 in
theorem tM262 : (Cond.selects R_M y_M_witness y_M_witness : Cond) ∈ lw_tbl := List.mem_of_getElem? (i := 948) rfl
set_option maxRecDepth 100000 in
theorem tM263 : (Cond.code y_M_witness b_M_witness 2 (some .long) : Cond) ∈ lw_tbl := List.mem_of_getElem? (i := 949) rfl
set_option maxRecDepth 100000 in
theorem tM264 : (Cond.instanceMethod y_M_strays : Cond) ∈ lw_tbl := List.mem_of_getElem? (i := 951) rfl
set_option maxRecDepth 100000 in
theorem tM265 : (Cond.selects R_M y_M_strays y_M_strays : Cond) ∈ lw_tbl := List.mem_of_getElem? (i := 952) rfl
set_option maxRecDepth 100000 in
theorem tM266 : (Cond.code y_M_strays b_M_strays 1 (some .int) : Cond) ∈ lw_tbl := List.mem_of_getElem? (i := 953) rfl
set_option maxRecDepth 100000 in
theorem tM267 : (Cond.selects R_M y_M_nothingSaid y_M_nothingSaid : Cond) ∈ lw_tbl := List.mem_of_getElem? (i := 8) rfl
set_option maxRecDepth 100000 in
theorem tM268 : (Cond.selects R_M y_M_copy y_M_copy : Cond) ∈ lw_tbl := List.mem_of_getElem? (i := 10) rfl
set_option maxRecDepth 100000 in
theorem tM269 : (Cond.selects R_M y_M_isNumber y_M_isNumber : Cond) ∈ lw_tbl := List.mem_of_getElem? (i := 12) rfl
set_option maxRecDepth 100000 in
theorem tM270 : (Cond.selects R_M y_M_isSingle y_M_isSingle : Cond) ∈ lw_tbl := List.mem_of_getElem? (i := 35) rfl
set_option maxRecDepth 100000 in
theorem tM271 : (Cond.selects R_M y_M_end_ y_M_end_ : Cond) ∈ lw_tbl := List.mem_of_getElem? (i := 17) rfl
set_option maxRecDepth 100000 in
theorem tM272 : (Cond.selects R_M y_M_has1 y_M_has1 : Cond) ∈ lw_tbl := List.mem_of_getElem? (i := 16) rfl
set_option maxRecDepth 100000 in
theorem tM273 : (Cond.selects R_M y_M_hasAny y_M_hasAny : Cond) ∈ lw_tbl := List.mem_of_getElem? (i := 15) rfl
set_option maxRecDepth 100000 in
theorem tM274 : (Cond.selects R_M y_M_tighten y_M_tighten : Cond) ∈ lw_tbl := List.mem_of_getElem? (i := 14) rfl
set_option maxRecDepth 100000 in
theorem tM275 : (Cond.selects R_M y_M_single y_M_single : Cond) ∈ lw_tbl := List.mem_of_getElem? (i := 13) rfl
set_option maxRecDepth 100000 in
theorem tM276 : (Cond.selects R_M y_M_noPlace y_M_noPlace : Cond) ∈ lw_tbl := List.mem_of_getElem? (i := 7) rfl
set_option maxRecDepth 100000 in
theorem tM277 : (Cond.selects R_M y_M_look y_M_look : Cond) ∈ lw_tbl := List.mem_of_getElem? (i := 11) rfl
set_option maxRecDepth 100000 in
theorem tM278 : (Cond.selects R_M y_M_put y_M_put : Cond) ∈ lw_tbl := List.mem_of_getElem? (i := 9) rfl
set_option maxRecDepth 100000 in
theorem tM279 : (Cond.selects R_M y_M_cutRow y_M_cutRow : Cond) ∈ lw_tbl := List.mem_of_getElem? (i := 18) rfl
set_option maxRecDepth 100000 in
theorem tM280 : (Cond.selects R_M y_M_extendRow y_M_extendRow : Cond) ∈ lw_tbl := List.mem_of_getElem? (i := 19) rfl
set_option maxRecDepth 100000 in
theorem tM281 : (Cond.selects R_M y_M_swapRow y_M_swapRow : Cond) ∈ lw_tbl := List.mem_of_getElem? (i := 20) rfl
set_option maxRecDepth 100000 in
theorem tM282 : (Cond.selects R_M y_M_mayBe y_M_mayBe : Cond) ∈ lw_tbl := List.mem_of_getElem? (i := 24) rfl
set_option maxRecDepth 100000 in
theorem tM283 : (Cond.selects R_M y_M_sumBits y_M_sumBits : Cond) ∈ lw_tbl := List.mem_of_getElem? (i := 23) rfl
set_option maxRecDepth 100000 in
theorem tM284 : (Cond.selects R_M y_M_add y_M_add : Cond) ∈ lw_tbl := List.mem_of_getElem? (i := 22) rfl
set_option maxRecDepth 100000 in
theorem tM285 : (Cond.selects R_M y_M_subtract y_M_subtract : Cond) ∈ lw_tbl := List.mem_of_getElem? (i := 25) rfl
set_option maxRecDepth 100000 in
theorem tM286 : (Cond.selects R_M y_M_lowest y_M_lowest : Cond) ∈ lw_tbl := List.mem_of_getElem? (i := 27) rfl
set_option maxRecDepth 100000 in
theorem tM287 : (Cond.selects R_M y_M_knowLowest y_M_knowLowest : Cond) ∈ lw_tbl := List.mem_of_getElem? (i := 28) rfl
set_option maxRecDepth 100000 in
theorem tM288 : (Cond.selects R_M y_M_multiply y_M_multiply : Cond) ∈ lw_tbl := List.mem_of_getElem? (i := 26) rfl
set_option maxRecDepth 100000 in
theorem tM289 : (Cond.selects R_M y_M_divide y_M_divide : Cond) ∈ lw_tbl := List.mem_of_getElem? (i := 29) rfl
set_option maxRecDepth 100000 in
theorem tM290 : (Cond.selects R_M y_M_remain y_M_remain : Cond) ∈ lw_tbl := List.mem_of_getElem? (i := 30) rfl
set_option maxRecDepth 100000 in
theorem tM291 : (Cond.selects R_M y_M_and_ y_M_and_ : Cond) ∈ lw_tbl := List.mem_of_getElem? (i := 31) rfl
set_option maxRecDepth 100000 in
theorem tM292 : (Cond.selects R_M y_M_or_ y_M_or_ : Cond) ∈ lw_tbl := List.mem_of_getElem? (i := 32) rfl
set_option maxRecDepth 100000 in
theorem tM293 : (Cond.selects R_M y_M_xor_ y_M_xor_ : Cond) ∈ lw_tbl := List.mem_of_getElem? (i := 33) rfl
set_option maxRecDepth 100000 in
theorem tM294 : (Cond.selects R_M y_M_left y_M_left : Cond) ∈ lw_tbl := List.mem_of_getElem? (i := 34) rfl
set_option maxRecDepth 100000 in
theorem tM295 : (Cond.selects R_M y_M_right y_M_right : Cond) ∈ lw_tbl := List.mem_of_getElem? (i := 36) rfl
set_option maxRecDepth 100000 in
theorem tM296 : (Cond.selects R_M y_M_signedRight y_M_signedRight : Cond) ∈ lw_tbl := List.mem_of_getElem? (i := 37) rfl
set_option maxRecDepth 100000 in
theorem tM297 : (Cond.selects R_M y_M_apply y_M_apply : Cond) ∈ lw_tbl := List.mem_of_getElem? (i := 21) rfl
set_option maxRecDepth 100000 in
theorem tM298 : (Cond.selects R_M y_M_joinBits y_M_joinBits : Cond) ∈ lw_tbl := List.mem_of_getElem? (i := 38) rfl
set_option maxRecDepth 100000 in
theorem tM299 : (Cond.selects R_M y_M_both y_M_both : Cond) ∈ lw_tbl := List.mem_of_getElem? (i := 42) rfl
set_option maxRecDepth 100000 in
theorem tM300 : (Cond.selects R_M y_M_lose y_M_lose : Cond) ∈ lw_tbl := List.mem_of_getElem? (i := 43) rfl
set_option maxRecDepth 100000 in
theorem tM301 : (Cond.selects R_M y_M_order y_M_order : Cond) ∈ lw_tbl := List.mem_of_getElem? (i := 44) rfl
set_option maxRecDepth 100000 in
theorem tM302 : (Cond.selects R_M y_M_orderLongs y_M_orderLongs : Cond) ∈ lw_tbl := List.mem_of_getElem? (i := 45) rfl
set_option maxRecDepth 100000 in
theorem tM303 : (Cond.selects R_M y_M_force y_M_force : Cond) ∈ lw_tbl := List.mem_of_getElem? (i := 46) rfl
set_option maxRecDepth 100000 in
theorem tM304 : (Cond.selects R_M y_M_refine y_M_refine : Cond) ∈ lw_tbl := List.mem_of_getElem? (i := 41) rfl
set_option maxRecDepth 100000 in
theorem tM305 : (Cond.selects R_M y_M_canBe y_M_canBe : Cond) ∈ lw_tbl := List.mem_of_getElem? (i := 40) rfl
set_option maxRecDepth 100000 in
theorem tM306 : (Cond.selects R_M y_M_noComparison y_M_noComparison : Cond) ∈ lw_tbl := List.mem_of_getElem? (i := 39) rfl
set_option maxRecDepth 100000 in
set_option maxHeartbeats 4000000 in
theorem tM : ∀ w ∈ gM, w ∈ lw_tbl :=
  acW tM0 (acW tM1 (acW tM2 (acW tM3 (acW tM4 (acW tM5 (acW tM6 (acW tM7 (acW tM8 (acW tM9 (acW tM10 (acW tM11 (acW tM12 (acW tM13 (acW tM14 (acW tM15 (acW tM16 (acW tM17 (acW tM18 (acW tM19 (acW tM20 (acW tM21 (acW tM22 (acW tM23 (acW tM24 (acW tM25 (acW tM26 (acW tM27 (acW tM28 (acW tM29 (acW tM30 (acW tM31 (acW tM32 (acW tM33 (acW tM34 (acW tM35 (acW tM36 (acW tM37 (acW tM38 (acW tM39 (acW tM40 (acW tM41 (acW tM42 (acW tM43 (acW tM44 (acW tM45 (acW tM46 (acW tM47 (acW tM48 (acW tM49 (acW tM50 (acW tM51 (acW tM52 (acW tM53 (acW tM54 (acW tM55 (acW tM56 (acW tM57 (acW tM58 (acW tM59 (acW tM60 (acW tM61 (acW tM62 (acW tM63 (acW tM64 (acW tM65 (acW tM66 (acW tM67 (acW tM68 (acW tM69 (acW tM70 (acW tM71 (acW tM72 (acW tM73 (acW tM74 (acW tM75 (acW tM76 (acW tM77 (acW tM78 (acW tM79 (acW tM80 (acW tM81 (acW tM82 (acW tM83 (acW tM84 (acW tM85 (acW tM86 (acW tM87 (acW tM88 (acW tM89 (acW tM90 (acW tM91 (acW tM92 (acW tM93 (acW tM94 (acW tM95 (acW tM96 (acW tM97 (acW tM98 (acW tM99 (acW tM100 (acW tM101 (acW tM102 (acW tM103 (acW tM104 (acW tM105 (acW tM106 (acW tM107 (acW tM108 (acW tM109 (acW tM110 (acW tM111 (acW tM112 (acW tM113 (acW tM114 (acW tM115 (acW tM116 (acW tM117 (acW tM118 (acW tM119 (acW tM120 (acW tM121 (acW tM122 (acW tM123 (acW tM124 (acW tM125 (acW tM126 (acW tM127 (acW tM128 (acW tM129 (acW tM130 (acW tM131 (acW tM132 (acW tM133 (acW tM134 (acW tM135 (acW tM136 (acW tM137 (acW tM138 (acW tM139 (acW tM140 (acW tM141 (acW tM142 (acW tM143 (acW tM144 (acW tM145 (acW tM146 (acW tM147 (acW tM148 (acW tM149 (acW tM150 (acW tM151 (acW tM152 (acW tM153 (acW tM154 (acW tM155 (acW tM156 (acW tM157 (acW tM158 (acW tM159 (acW tM160 (acW tM161 (acW tM162 (acW tM163 (acW tM164 (acW tM165 (acW tM166 (acW tM167 (acW tM168 (acW tM169 (acW tM170 (acW tM171 (acW tM172 (acW tM173 (acW tM174 (acW tM175 (acW tM176 (acW tM177 (acW tM178 (acW tM179 (acW tM180 (acW tM181 (acW tM182 (acW tM183 (acW tM184 (acW tM185 (acW tM186 (acW tM187 (acW tM188 (acW tM189 (acW tM190 (acW tM191 (acW tM192 (acW tM193 (acW tM194 (acW tM195 (acW tM196 (acW tM197 (acW tM198 (acW tM199 (acW tM200 (acW tM201 (acW tM202 (acW tM203 (acW tM204 (acW tM205 (acW tM206 (acW tM207 (acW tM208 (acW tM209 (acW tM210 (acW tM211 (acW tM212 (acW tM213 (acW tM214 (acW tM215 (acW tM216 (acW tM217 (acW tM218 (acW tM219 (acW tM220 (acW tM221 (acW tM222 (acW tM223 (acW tM224 (acW tM225 (acW tM226 (acW tM227 (acW tM228 (acW tM229 (acW tM230 (acW tM231 (acW tM232 (acW tM233 (acW tM234 (acW tM235 (acW tM236 (acW tM237 (acW tM238 (acW tM239 (acW tM240 (acW tM241 (acW tM242 (acW tM243 (acW tM244 (acW tM245 (acW tM246 (acW tM247 (acW tM248 (acW tM249 (acW tM250 (acW tM251 (acW tM252 (acW tM253 (acW tM254 (acW tM255 (acW tM256 (acW tM257 (acW tM258 (acW tM259 (acW tM260 (acW tM261 (acW tM262 (acW tM263 (acW tM264 (acW tM265 (acW tM266 (acW tM267 (acW tM268 (acW tM269 (acW tM270 (acW tM271 (acW tM272 (acW tM273 (acW tM274 (acW tM275 (acW tM276 (acW tM277 (acW tM278 (acW tM279 (acW tM280 (acW tM281 (acW tM282 (acW tM283 (acW tM284 (acW tM285 (acW tM286 (acW tM287 (acW tM288 (acW tM289 (acW tM290 (acW tM291 (acW tM292 (acW tM293 (acW tM294 (acW tM295 (acW tM296 (acW tM297 (acW tM298 (acW tM299 (acW tM300 (acW tM301 (acW tM302 (acW tM303 (acW tM304 (acW tM305 (acW tM306 (fun w h => absurd h List.not_mem_nil)))))))))))))))))))))))))))))))))))))))))))))))))))))))))))))))))))))))))))))))))))))))))))))))))))))))))))))))))))))))))))))))))))))))))))))))))))))))))))))))))))))))))))))))))))))))))))))))))))))))))))))))))))))))))))))))))))))))))))))))))))))))))))))))))))))))))))))))))))))))))))))))))))))))))))))))))))
set_option maxRecDepth 100000 in
theorem tG0 : (Cond.initialized R_S : Cond) ∈ lw_tbl := List.mem_of_getElem? (i := 48) rfl
set_option maxRecDepth 100000 in
theorem tG1 : (Cond.initialized R_V : Cond) ∈ lw_tbl := List.mem_of_getElem? (i := 49) rfl
set_option maxRecDepth 100000 in
theorem tG2 : (Cond.initialized R_N : Cond) ∈ lw_tbl := List.mem_of_getElem? (i := 55) rfl
set_option maxRecDepth 100000 in
theorem tG3 : (Cond.initialized "java/lang/Math" : Cond) ∈ lw_tbl := List.mem_of_getElem? (i := 56) rfl
set_option maxRecDepth 100000 in
theorem tG4 : (Cond.initialized R_O : Cond) ∈ lw_tbl := List.mem_of_getElem? (i := 58) rfl
set_option maxRecDepth 100000 in
theorem tG5 : (Cond.initialized R_Lo : Cond) ∈ lw_tbl := List.mem_of_getElem? (i := 59) rfl
set_option maxRecDepth 100000 in
theorem tG6 : (Cond.initialized R_C : Cond) ∈ lw_tbl := List.mem_of_getElem? (i := 60) rfl
set_option maxRecDepth 100000 in
theorem tG7 : (Cond.instantiable R_S 6 : Cond) ∈ lw_tbl := List.mem_of_getElem? (i := 62) rfl
set_option maxRecDepth 100000 in
theorem tG8 : (Cond.instanceMethod y_S_init : Cond) ∈ lw_tbl := List.mem_of_getElem? (i := 64) rfl
set_option maxRecDepth 100000 in
theorem tG9 : (Cond.code y_S_init b_S_init 2 none : Cond) ∈ lw_tbl := List.mem_of_getElem? (i := 65) rfl
set_option maxRecDepth 100000 in
theorem tG10 : (Cond.methodLink R_S 1 objectInit : Cond) ∈ lw_tbl := List.mem_of_getElem? (i := 66) rfl
set_option maxRecDepth 100000 in
theorem tG11 : (Cond.instanceMethod objectInit : Cond) ∈ lw_tbl := List.mem_of_getElem? (i := 67) rfl
set_option maxRecDepth 100000 in
theorem tG12 : (Cond.code objectInit ⟨#[0xb1]⟩ 1 none : Cond) ∈ lw_tbl := List.mem_of_getElem? (i := 68) rfl
set_option maxRecDepth 100000 in
theorem tG13 : (Cond.classLink R_S 9 R_V : Cond) ∈ lw_tbl := List.mem_of_getElem? (i := 69) rfl
set_option maxRecDepth 100000 in
theorem tG14 : (Cond.instantiable R_V 7 : Cond) ∈ lw_tbl := List.mem_of_getElem? (i := 71) rfl
set_option maxRecDepth 100000 in
theorem tG15 : (Cond.instanceMethod y_V_init : Cond) ∈ lw_tbl := List.mem_of_getElem? (i := 73) rfl
set_option maxRecDepth 100000 in
theorem tG16 : (Cond.code y_V_init b_V_init 1 none : Cond) ∈ lw_tbl := List.mem_of_getElem? (i := 74) rfl
set_option maxRecDepth 100000 in
theorem tG17 : (Cond.methodLink R_V 1 objectInit : Cond) ∈ lw_tbl := List.mem_of_getElem? (i := 75) rfl
set_option maxRecDepth 100000 in
theorem tG18 : (Cond.fieldLink R_V 7 "ValueSieve$Value" "bits" "J" : Cond) ∈ lw_tbl := List.mem_of_getElem? (i := 76) rfl
set_option maxRecDepth 100000 in
theorem tG19 : (Cond.fieldLink R_O 36 "ValueSieve$Value" "bits" "J" : Cond) ∈ lw_tbl := List.mem_of_getElem? (i := 77) rfl
set_option maxRecDepth 100000 in
theorem tG20 : (Cond.fieldLink R_C 45 "ValueSieve$Value" "bits" "J" : Cond) ∈ lw_tbl := List.mem_of_getElem? (i := 78) rfl
set_option maxRecDepth 100000 in
theorem tG21 : (Cond.fieldLink R_V 13 "ValueSieve$Value" "unknown" "J" : Cond) ∈ lw_tbl := List.mem_of_getElem? (i := 79) rfl
set_option maxRecDepth 100000 in
theorem tG22 : (Cond.fieldLink R_O 40 "ValueSieve$Value" "unknown" "J" : Cond) ∈ lw_tbl := List.mem_of_getElem? (i := 80) rfl
set_option maxRecDepth 100000 in
theorem tG23 : (Cond.fieldLink R_C 49 "ValueSieve$Value" "unknown" "J" : Cond) ∈ lw_tbl := List.mem_of_getElem? (i := 81) rfl
set_option maxRecDepth 100000 in
theorem tG24 : (Cond.fieldLink R_S 159 "ValueSieve$Value" "unknown" "J" : Cond) ∈ lw_tbl := List.mem_of_getElem? (i := 82) rfl
set_option maxRecDepth 100000 in
theorem tG25 : (Cond.fieldLink R_V 16 "ValueSieve$Value" "low" "J" : Cond) ∈ lw_tbl := List.mem_of_getElem? (i := 83) rfl
set_option maxRecDepth 100000 in
theorem tG26 : (Cond.fieldLink R_O 55 "ValueSieve$Value" "low" "J" : Cond) ∈ lw_tbl := List.mem_of_getElem? (i := 84) rfl
set_option maxRecDepth 100000 in
theorem tG27 : (Cond.fieldLink R_C 62 "ValueSieve$Value" "low" "J" : Cond) ∈ lw_tbl := List.mem_of_getElem? (i := 85) rfl
set_option maxRecDepth 100000 in
theorem tG28 : (Cond.fieldLink R_S 146 "ValueSieve$Value" "low" "J" : Cond) ∈ lw_tbl := List.mem_of_getElem? (i := 86) rfl
set_option maxRecDepth 100000 in
theorem tG29 : (Cond.fieldLink R_V 19 "ValueSieve$Value" "high" "J" : Cond) ∈ lw_tbl := List.mem_of_getElem? (i := 87) rfl
set_option maxRecDepth 100000 in
theorem tG30 : (Cond.fieldLink R_O 49 "ValueSieve$Value" "high" "J" : Cond) ∈ lw_tbl := List.mem_of_getElem? (i := 88) rfl
set_option maxRecDepth 100000 in
theorem tG31 : (Cond.fieldLink R_C 69 "ValueSieve$Value" "high" "J" : Cond) ∈ lw_tbl := List.mem_of_getElem? (i := 89) rfl
set_option maxRecDepth 100000 in
theorem tG32 : (Cond.fieldLink R_S 153 "ValueSieve$Value" "high" "J" : Cond) ∈ lw_tbl := List.mem_of_getElem? (i := 90) rfl
set_option maxRecDepth 100000 in
theorem tG33 : (Cond.fieldLink R_V 22 "ValueSieve$Value" "least" "J" : Cond) ∈ lw_tbl := List.mem_of_getElem? (i := 91) rfl
set_option maxRecDepth 100000 in
theorem tG34 : (Cond.fieldLink R_O 79 "ValueSieve$Value" "least" "J" : Cond) ∈ lw_tbl := List.mem_of_getElem? (i := 92) rfl
set_option maxRecDepth 100000 in
theorem tG35 : (Cond.fieldLink R_C 78 "ValueSieve$Value" "least" "J" : Cond) ∈ lw_tbl := List.mem_of_getElem? (i := 93) rfl
set_option maxRecDepth 100000 in
theorem tG36 : (Cond.fieldLink R_S 150 "ValueSieve$Value" "least" "J" : Cond) ∈ lw_tbl := List.mem_of_getElem? (i := 94) rfl
set_option maxRecDepth 100000 in
theorem tG37 : (Cond.fieldLink R_V 25 "ValueSieve$Value" "greatest" "J" : Cond) ∈ lw_tbl := List.mem_of_getElem? (i := 95) rfl
set_option maxRecDepth 100000 in
theorem tG38 : (Cond.fieldLink R_O 85 "ValueSieve$Value" "greatest" "J" : Cond) ∈ lw_tbl := List.mem_of_getElem? (i := 96) rfl
set_option maxRecDepth 100000 in
theorem tG39 : (Cond.fieldLink R_C 86 "ValueSieve$Value" "greatest" "J" : Cond) ∈ lw_tbl := List.mem_of_getElem? (i := 97) rfl
set_option maxRecDepth 100000 in
theorem tG40 : (Cond.fieldLink R_S 156 "ValueSieve$Value" "greatest" "J" : Cond) ∈ lw_tbl := List.mem_of_getElem? (i := 98) rfl
set_option maxRecDepth 100000 in
theorem tG41 : (Cond.fieldLink R_V 28 "ValueSieve$Value" "nothing" "Z" : Cond) ∈ lw_tbl := List.mem_of_getElem? (i := 99) rfl
set_option maxRecDepth 100000 in
theorem tG42 : (Cond.fieldLink R_C 54 "ValueSieve$Value" "nothing" "Z" : Cond) ∈ lw_tbl := List.mem_of_getElem? (i := 100) rfl
set_option maxRecDepth 100000 in
theorem tG43 : (Cond.fieldLink R_S 171 "ValueSieve$Value" "nothing" "Z" : Cond) ∈ lw_tbl := List.mem_of_getElem? (i := 101) rfl
set_option maxRecDepth 100000 in
theorem tG44 : (Cond.lays R_V "ValueSieve$Value" "bits" "J" : Cond) ∈ lw_tbl := List.mem_of_getElem? (i := 102) rfl
set_option maxRecDepth 100000 in
theorem tG45 : (Cond.lays R_V "ValueSieve$Value" "unknown" "J" : Cond) ∈ lw_tbl := List.mem_of_getElem? (i := 104) rfl
set_option maxRecDepth 100000 in
theorem tG46 : (Cond.lays R_V "ValueSieve$Value" "low" "J" : Cond) ∈ lw_tbl := List.mem_of_getElem? (i := 106) rfl
set_option maxRecDepth 100000 in
theorem tG47 : (Cond.lays R_V "ValueSieve$Value" "high" "J" : Cond) ∈ lw_tbl := List.mem_of_getElem? (i := 108) rfl
set_option maxRecDepth 100000 in
theorem tG48 : (Cond.lays R_V "ValueSieve$Value" "least" "J" : Cond) ∈ lw_tbl := List.mem_of_getElem? (i := 110) rfl
set_option maxRecDepth 100000 in
theorem tG49 : (Cond.lays R_V "ValueSieve$Value" "greatest" "J" : Cond) ∈ lw_tbl := List.mem_of_getElem? (i := 112) rfl
set_option maxRecDepth 100000 in
theorem tG50 : (Cond.lays R_V "ValueSieve$Value" "nothing" "Z" : Cond) ∈ lw_tbl := List.mem_of_getElem? (i := 114) rfl
set_option maxRecDepth 100000 in
theorem tG51 : (Cond.arrayClass .long : Cond) ∈ lw_tbl := List.mem_of_getElem? (i := 117) rfl
set_option maxRecDepth 100000 in
theorem tG52 : (Cond.fieldLink R_S 11 "ValueSieve" "values" "[LValueSieve$Value;" : Cond) ∈ lw_tbl := List.mem_of_getElem? (i := 118) rfl
set_option maxRecDepth 100000 in
theorem tG53 : (Cond.fieldLink R_S 15 "ValueSieve" "witnesses" "[J" : Cond) ∈ lw_tbl := List.mem_of_getElem? (i := 119) rfl
set_option maxRecDepth 100000 in
theorem tG54 : (Cond.fieldLink R_S 20 "ValueSieve" "x" "LValueSieve$Value;" : Cond) ∈ lw_tbl := List.mem_of_getElem? (i := 120) rfl
set_option maxRecDepth 100000 in
theorem tG55 : (Cond.fieldLink R_S 24 "ValueSieve" "y" "LValueSieve$Value;" : Cond) ∈ lw_tbl := List.mem_of_getElem? (i := 121) rfl
set_option maxRecDepth 100000 in
theorem tG56 : (Cond.fieldLink R_S 27 "ValueSieve" "made" "LValueSieve$Value;" : Cond) ∈ lw_tbl := List.mem_of_getElem? (i := 122) rfl
set_option maxRecDepth 100000 in
theorem tG57 : (Cond.fieldLink R_S 30 "ValueSieve" "strayCount" "I" : Cond) ∈ lw_tbl := List.mem_of_getElem? (i := 123) rfl
set_option maxRecDepth 100000 in
theorem tG58 : (Cond.laysFinal R_S "ValueSieve" "values" "[LValueSieve$Value;" : Cond) ∈ lw_tbl := List.mem_of_getElem? (i := 124) rfl
set_option maxRecDepth 100000 in
theorem tG59 : (Cond.laysFinal R_S "ValueSieve" "witnesses" "[J" : Cond) ∈ lw_tbl := List.mem_of_getElem? (i := 126) rfl
set_option maxRecDepth 100000 in
theorem tG60 : (Cond.laysFinal R_S "ValueSieve" "x" "LValueSieve$Value;" : Cond) ∈ lw_tbl := List.mem_of_getElem? (i := 128) rfl
set_option maxRecDepth 100000 in
theorem tG61 : (Cond.laysFinal R_S "ValueSieve" "y" "LValueSieve$Value;" : Cond) ∈ lw_tbl := List.mem_of_getElem? (i := 130) rfl
set_option maxRecDepth 100000 in
theorem tG62 : (Cond.laysFinal R_S "ValueSieve" "made" "LValueSieve$Value;" : Cond) ∈ lw_tbl := List.mem_of_getElem? (i := 132) rfl
set_option maxRecDepth 100000 in
theorem tG63 : (Cond.lays R_S "ValueSieve" "strayCount" "I" : Cond) ∈ lw_tbl := List.mem_of_getElem? (i := 134) rfl
set_option maxRecDepth 100000 in
theorem tG64 : (Cond.instanceMethod y_S_strays : Cond) ∈ lw_tbl := List.mem_of_getElem? (i := 138) rfl
set_option maxRecDepth 100000 in
theorem tG65 : (Cond.selects R_S y_S_strays y_S_strays : Cond) ∈ lw_tbl := List.mem_of_getElem? (i := 139) rfl
set_option maxRecDepth 100000 in
theorem tG66 : (Cond.code y_S_strays b_S_strays 1 (some .int) : Cond) ∈ lw_tbl := List.mem_of_getElem? (i := 140) rfl
set_option maxRecDepth 100000 in
theorem tG67 : (Cond.instanceMethod y_S_any : Cond) ∈ lw_tbl := List.mem_of_getElem? (i := 146) rfl
set_option maxRecDepth 100000 in
theorem tG68 : (Cond.selects R_S y_S_any y_S_any : Cond) ∈ lw_tbl := List.mem_of_getElem? (i := 147) rfl
set_option maxRecDepth 100000 in
theorem tG69 : (Cond.code y_S_any b_S_any 4 none : Cond) ∈ lw_tbl := List.mem_of_getElem? (i := 148) rfl
set_option maxRecDepth 100000 in
theorem tG70 : (Cond.methodLink R_S 34 y_S_requirePlace : Cond) ∈ lw_tbl := List.mem_of_getElem? (i := 149) rfl
set_option maxRecDepth 100000 in
theorem tG71 : (Cond.static y_S_requirePlace : Cond) ∈ lw_tbl := List.mem_of_getElem? (i := 150) rfl
set_option maxRecDepth 100000 in
theorem tG72 : (Cond.code y_S_requirePlace b_S_requirePlace 1 none : Cond) ∈ lw_tbl := List.mem_of_getElem? (i := 151) rfl
set_option maxRecDepth 100000 in
theorem tG73 : (Cond.arrayClass .byte : Cond) ∈ lw_tbl := List.mem_of_getElem? (i := 218) rfl
set_option maxRecDepth 100000 in
theorem tG74 : (Cond.methodLink R_S 38 y_V_sayAll : Cond) ∈ lw_tbl := List.mem_of_getElem? (i := 219) rfl
set_option maxRecDepth 100000 in
theorem tG75 : (Cond.instanceMethod y_V_sayAll : Cond) ∈ lw_tbl := List.mem_of_getElem? (i := 220) rfl
set_option maxRecDepth 100000 in
theorem tG76 : (Cond.selects R_V y_V_sayAll y_V_sayAll : Cond) ∈ lw_tbl := List.mem_of_getElem? (i := 221) rfl
set_option maxRecDepth 100000 in
theorem tG77 : (Cond.code y_V_sayAll b_V_sayAll 1 none : Cond) ∈ lw_tbl := List.mem_of_getElem? (i := 222) rfl
set_option maxRecDepth 100000 in
theorem tG78 : (Cond.constantLong R_V 32 (-1) : Cond) ∈ lw_tbl := List.mem_of_getElem? (i := 223) rfl
set_option maxRecDepth 100000 in
theorem tG79 : (Cond.methodLink R_V 34 y_V_sayBits : Cond) ∈ lw_tbl := List.mem_of_getElem? (i := 224) rfl
set_option maxRecDepth 100000 in
theorem tG80 : (Cond.instanceMethod y_V_sayBits : Cond) ∈ lw_tbl := List.mem_of_getElem? (i := 225) rfl
set_option maxRecDepth 100000 in
theorem tG81 : (Cond.selects R_V y_V_sayBits y_V_sayBits : Cond) ∈ lw_tbl := List.mem_of_getElem? (i := 226) rfl
set_option maxRecDepth 100000 in
theorem tG82 : (Cond.code y_V_sayBits b_V_sayBits 5 none : Cond) ∈ lw_tbl := List.mem_of_getElem? (i := 227) rfl
set_option maxRecDepth 100000 in
theorem tG83 : (Cond.methodLink R_V 38 y_V_sayUnsigned : Cond) ∈ lw_tbl := List.mem_of_getElem? (i := 228) rfl
set_option maxRecDepth 100000 in
theorem tG84 : (Cond.instanceMethod y_V_sayUnsigned : Cond) ∈ lw_tbl := List.mem_of_getElem? (i := 229) rfl
set_option maxRecDepth 100000 in
theorem tG85 : (Cond.selects R_V y_V_sayUnsigned y_V_sayUnsigned : Cond) ∈ lw_tbl := List.mem_of_getElem? (i := 230) rfl
set_option maxRecDepth 100000 in
theorem tG86 : (Cond.code y_V_sayUnsigned b_V_sayUnsigned 5 none : Cond) ∈ lw_tbl := List.mem_of_getElem? (i := 231) rfl
set_option maxRecDepth 100000 in
theorem tG87 : (Cond.constantLong R_V 43 (-9223372036854775808) : Cond) ∈ lw_tbl := List.mem_of_getElem? (i := 232) rfl
set_option maxRecDepth 100000 in
theorem tG88 : (Cond.constantLong R_V 45 (9223372036854775807) : Cond) ∈ lw_tbl := List.mem_of_getElem? (i := 233) rfl
set_option maxRecDepth 100000 in
theorem tG89 : (Cond.methodLink R_V 47 y_V_saySigned : Cond) ∈ lw_tbl := List.mem_of_getElem? (i := 234) rfl
set_option maxRecDepth 100000 in
theorem tG90 : (Cond.instanceMethod y_V_saySigned : Cond) ∈ lw_tbl := List.mem_of_getElem? (i := 235) rfl
set_option maxRecDepth 100000 in
theorem tG91 : (Cond.selects R_V y_V_saySigned y_V_saySigned : Cond) ∈ lw_tbl := List.mem_of_getElem? (i := 236) rfl
set_option maxRecDepth 100000 in
theorem tG92 : (Cond.code y_V_saySigned b_V_saySigned 5 none : Cond) ∈ lw_tbl := List.mem_of_getElem? (i := 237) rfl
set_option maxRecDepth 100000 in
theorem tG93 : (Cond.methodLink R_S 41 y_S_write : Cond) ∈ lw_tbl := List.mem_of_getElem? (i := 238) rfl
set_option maxRecDepth 100000 in
theorem tG94 : (Cond.instanceMethod y_S_write : Cond) ∈ lw_tbl := List.mem_of_getElem? (i := 240) rfl
set_option maxRecDepth 100000 in
theorem tG95 : (Cond.code y_S_write b_S_write 5 none : Cond) ∈ lw_tbl := List.mem_of_getElem? (i := 241) rfl
set_option maxRecDepth 100000 in
theorem tG96 : (Cond.methodLink R_S 77 y_V_take : Cond) ∈ lw_tbl := List.mem_of_getElem? (i := 242) rfl
set_option maxRecDepth 100000 in
theorem tG97 : (Cond.instanceMethod y_V_take : Cond) ∈ lw_tbl := List.mem_of_getElem? (i := 243) rfl
set_option maxRecDepth 100000 in
theorem tG98 : (Cond.selects R_V y_V_take y_V_take : Cond) ∈ lw_tbl := List.mem_of_getElem? (i := 244) rfl
set_option maxRecDepth 100000 in
theorem tG99 : (Cond.code y_V_take b_V_take 2 none : Cond) ∈ lw_tbl := List.mem_of_getElem? (i := 245) rfl
set_option maxRecDepth 100000 in
theorem tG100 : (Cond.methodLink R_S 58 y_V_holds : Cond) ∈ lw_tbl := List.mem_of_getElem? (i := 246) rfl
set_option maxRecDepth 100000 in
theorem tG101 : (Cond.instanceMethod y_V_holds : Cond) ∈ lw_tbl := List.mem_of_getElem? (i := 247) rfl
set_option maxRecDepth 100000 in
theorem tG102 : (Cond.selects R_V y_V_holds y_V_holds : Cond) ∈ lw_tbl := List.mem_of_getElem? (i := 248) rfl
set_option maxRecDepth 100000 in
theorem tG103 : (Cond.code y_V_holds b_V_holds 3 (some .boolean) : Cond) ∈ lw_tbl := List.mem_of_getElem? (i := 249) rfl
set_option maxRecDepth 100000 in
theorem tG104 : (Cond.methodLink R_V 50 y_N_below : Cond) ∈ lw_tbl := List.mem_of_getElem? (i := 250) rfl
set_option maxRecDepth 100000 in
theorem tG105 : (Cond.static y_N_below : Cond) ∈ lw_tbl := List.mem_of_getElem? (i := 251) rfl
set_option maxRecDepth 100000 in
theorem tG106 : (Cond.code y_N_below b_N_below 4 (some .boolean) : Cond) ∈ lw_tbl := List.mem_of_getElem? (i := 252) rfl
set_option maxRecDepth 100000 in
theorem tG107 : (Cond.constantLong R_N 9 (-9223372036854775808) : Cond) ∈ lw_tbl := List.mem_of_getElem? (i := 253) rfl
set_option maxRecDepth 100000 in
theorem tG108 : (Cond.instanceMethod y_S_constant : Cond) ∈ lw_tbl := List.mem_of_getElem? (i := 258) rfl
set_option maxRecDepth 100000 in
theorem tG109 : (Cond.selects R_S y_S_constant y_S_constant : Cond) ∈ lw_tbl := List.mem_of_getElem? (i := 259) rfl
set_option maxRecDepth 100000 in
theorem tG110 : (Cond.code y_S_constant b_S_constant 4 none : Cond) ∈ lw_tbl := List.mem_of_getElem? (i := 260) rfl
set_option maxRecDepth 100000 in
theorem tG111 : (Cond.methodLink R_S 45 y_V_sayBits : Cond) ∈ lw_tbl := List.mem_of_getElem? (i := 261) rfl
set_option maxRecDepth 100000 in
theorem tG112 : (Cond.methodLink R_S 49 y_V_tighten : Cond) ∈ lw_tbl := List.mem_of_getElem? (i := 262) rfl
set_option maxRecDepth 100000 in
theorem tG113 : (Cond.instanceMethod y_V_tighten : Cond) ∈ lw_tbl := List.mem_of_getElem? (i := 263) rfl
set_option maxRecDepth 100000 in
theorem tG114 : (Cond.selects R_V y_V_tighten y_V_tighten : Cond) ∈ lw_tbl := List.mem_of_getElem? (i := 264) rfl
set_option maxRecDepth 100000 in
theorem tG115 : (Cond.code y_V_tighten b_V_tighten 13 none : Cond) ∈ lw_tbl := List.mem_of_getElem? (i := 265) rfl
set_option maxRecDepth 100000 in
theorem tG116 : (Cond.methodLink R_V 56 y_V_firstOfHalf : Cond) ∈ lw_tbl := List.mem_of_getElem? (i := 266) rfl
set_option maxRecDepth 100000 in
theorem tG117 : (Cond.instanceMethod y_V_firstOfHalf : Cond) ∈ lw_tbl := List.mem_of_getElem? (i := 268) rfl
set_option maxRecDepth 100000 in
theorem tG118 : (Cond.code y_V_firstOfHalf b_V_firstOfHalf 5 (some .long) : Cond) ∈ lw_tbl := List.mem_of_getElem? (i := 269) rfl
set_option maxRecDepth 100000 in
theorem tG119 : (Cond.methodLink R_V 77 Lib.MathLoose.max_long.x : Cond) ∈ lw_tbl := List.mem_of_getElem? (i := 270) rfl
set_option maxRecDepth 100000 in
theorem tG120 : (Cond.static Lib.MathLoose.max_long.x : Cond) ∈ lw_tbl := List.mem_of_getElem? (i := 271) rfl
set_option maxRecDepth 100000 in
theorem tG121 : (Cond.code Lib.MathLoose.max_long.x Lib.MathLoose.max_long.code 4 (some .long) : Cond) ∈ lw_tbl := List.mem_of_getElem? (i := 272) rfl
set_option maxRecDepth 100000 in
theorem tG122 : (Cond.methodLink R_V 82 y_N_more : Cond) ∈ lw_tbl := List.mem_of_getElem? (i := 273) rfl
set_option maxRecDepth 100000 in
theorem tG123 : (Cond.static y_N_more : Cond) ∈ lw_tbl := List.mem_of_getElem? (i := 274) rfl
set_option maxRecDepth 100000 in
theorem tG124 : (Cond.code y_N_more b_N_more 4 (some .long) : Cond) ∈ lw_tbl := List.mem_of_getElem? (i := 275) rfl
set_option maxRecDepth 100000 in
theorem tG125 : (Cond.methodLink R_N 11 y_N_below : Cond) ∈ lw_tbl := List.mem_of_getElem? (i := 276) rfl
set_option maxRecDepth 100000 in
theorem tG126 : (Cond.methodLink R_V 85 y_N_firstFrom : Cond) ∈ lw_tbl := List.mem_of_getElem? (i := 277) rfl
set_option maxRecDepth 100000 in
theorem tG127 : (Cond.static y_N_firstFrom : Cond) ∈ lw_tbl := List.mem_of_getElem? (i := 278) rfl
set_option maxRecDepth 100000 in
theorem tG128 : (Cond.code y_N_firstFrom b_N_firstFrom 16 (some .long) : Cond) ∈ lw_tbl := List.mem_of_getElem? (i := 279) rfl
set_option maxRecDepth 100000 in
theorem tG129 : (Cond.constantLong R_N 17 (-1) : Cond) ∈ lw_tbl := List.mem_of_getElem? (i := 280) rfl
set_option maxRecDepth 100000 in
theorem tG130 : (Cond.methodLink R_N 27 y_N_upToHighest : Cond) ∈ lw_tbl := List.mem_of_getElem? (i := 281) rfl
set_option maxRecDepth 100000 in
theorem tG131 : (Cond.static y_N_upToHighest : Cond) ∈ lw_tbl := List.mem_of_getElem? (i := 282) rfl
set_option maxRecDepth 100000 in
theorem tG132 : (Cond.code y_N_upToHighest b_N_upToHighest 4 (some .long) : Cond) ∈ lw_tbl := List.mem_of_getElem? (i := 283) rfl
set_option maxRecDepth 100000 in
theorem tG133 : (Cond.methodLink R_V 60 y_V_lastOfHalf : Cond) ∈ lw_tbl := List.mem_of_getElem? (i := 284) rfl
set_option maxRecDepth 100000 in
theorem tG134 : (Cond.instanceMethod y_V_lastOfHalf : Cond) ∈ lw_tbl := List.mem_of_getElem? (i := 286) rfl
set_option maxRecDepth 100000 in
theorem tG135 : (Cond.code y_V_lastOfHalf b_V_lastOfHalf 9 (some .long) : Cond) ∈ lw_tbl := List.mem_of_getElem? (i := 287) rfl
set_option maxRecDepth 100000 in
theorem tG136 : (Cond.methodLink R_V 89 Lib.MathLoose.min_long.x : Cond) ∈ lw_tbl := List.mem_of_getElem? (i := 288) rfl
set_option maxRecDepth 100000 in
theorem tG137 : (Cond.static Lib.MathLoose.min_long.x : Cond) ∈ lw_tbl := List.mem_of_getElem? (i := 289) rfl
set_option maxRecDepth 100000 in
theorem tG138 : (Cond.code Lib.MathLoose.min_long.x Lib.MathLoose.min_long.code 4 (some .long) : Cond) ∈ lw_tbl := List.mem_of_getElem? (i := 290) rfl
set_option maxRecDepth 100000 in
theorem tG139 : (Cond.methodLink R_V 92 y_N_less : Cond) ∈ lw_tbl := List.mem_of_getElem? (i := 291) rfl
set_option maxRecDepth 100000 in
theorem tG140 : (Cond.static y_N_less : Cond) ∈ lw_tbl := List.mem_of_getElem? (i := 292) rfl
set_option maxRecDepth 100000 in
theorem tG141 : (Cond.code y_N_less b_N_less 4 (some .long) : Cond) ∈ lw_tbl := List.mem_of_getElem? (i := 293) rfl
set_option maxRecDepth 100000 in
theorem tG142 : (Cond.methodLink R_V 63 y_V_holds : Cond) ∈ lw_tbl := List.mem_of_getElem? (i := 294) rfl
set_option maxRecDepth 100000 in
theorem tG143 : (Cond.methodLink R_V 67 y_V_openBetween : Cond) ∈ lw_tbl := List.mem_of_getElem? (i := 295) rfl
set_option maxRecDepth 100000 in
theorem tG144 : (Cond.instanceMethod y_V_openBetween : Cond) ∈ lw_tbl := List.mem_of_getElem? (i := 297) rfl
set_option maxRecDepth 100000 in
theorem tG145 : (Cond.code y_V_openBetween b_V_openBetween 5 (some .long) : Cond) ∈ lw_tbl := List.mem_of_getElem? (i := 298) rfl
set_option maxRecDepth 100000 in
theorem tG146 : (Cond.methodLink R_V 74 y_N_upToHighest : Cond) ∈ lw_tbl := List.mem_of_getElem? (i := 299) rfl
set_option maxRecDepth 100000 in
theorem tG147 : (Cond.methodLink R_V 71 y_V_sayStretch : Cond) ∈ lw_tbl := List.mem_of_getElem? (i := 300) rfl
set_option maxRecDepth 100000 in
theorem tG148 : (Cond.instanceMethod y_V_sayStretch : Cond) ∈ lw_tbl := List.mem_of_getElem? (i := 302) rfl
set_option maxRecDepth 100000 in
theorem tG149 : (Cond.code y_V_sayStretch b_V_sayStretch 5 none : Cond) ∈ lw_tbl := List.mem_of_getElem? (i := 303) rfl
set_option maxRecDepth 100000 in
theorem tG150 : (Cond.instanceMethod y_S_between : Cond) ∈ lw_tbl := List.mem_of_getElem? (i := 309) rfl
set_option maxRecDepth 100000 in
theorem tG151 : (Cond.selects R_S y_S_between y_S_between : Cond) ∈ lw_tbl := List.mem_of_getElem? (i := 310) rfl
set_option maxRecDepth 100000 in
theorem tG152 : (Cond.code y_S_between b_S_between 9 none : Cond) ∈ lw_tbl := List.mem_of_getElem? (i := 311) rfl
set_option maxRecDepth 100000 in
theorem tG153 : (Cond.methodLink R_S 52 y_V_sayUnsigned : Cond) ∈ lw_tbl := List.mem_of_getElem? (i := 312) rfl
set_option maxRecDepth 100000 in
theorem tG154 : (Cond.methodLink R_S 55 y_V_saySigned : Cond) ∈ lw_tbl := List.mem_of_getElem? (i := 313) rfl
set_option maxRecDepth 100000 in
theorem tG155 : (Cond.instanceMethod y_S_pattern : Cond) ∈ lw_tbl := List.mem_of_getElem? (i := 334) rfl
set_option maxRecDepth 100000 in
theorem tG156 : (Cond.selects R_S y_S_pattern y_S_pattern : Cond) ∈ lw_tbl := List.mem_of_getElem? (i := 335) rfl
set_option maxRecDepth 100000 in
theorem tG157 : (Cond.code y_S_pattern b_S_pattern 8 none : Cond) ∈ lw_tbl := List.mem_of_getElem? (i := 336) rfl
set_option maxRecDepth 100000 in
theorem tG158 : (Cond.instanceMethod y_S_operate : Cond) ∈ lw_tbl := List.mem_of_getElem? (i := 342) rfl
set_option maxRecDepth 100000 in
theorem tG159 : (Cond.selects R_S y_S_operate y_S_operate : Cond) ∈ lw_tbl := List.mem_of_getElem? (i := 343) rfl
set_option maxRecDepth 100000 in
theorem tG160 : (Cond.code y_S_operate b_S_operate 11 none : Cond) ∈ lw_tbl := List.mem_of_getElem? (i := 344) rfl
set_option maxRecDepth 100000 in
theorem tG161 : (Cond.methodLink R_S 81 y_N_extended : Cond) ∈ lw_tbl := List.mem_of_getElem? (i := 347) rfl
set_option maxRecDepth 100000 in
theorem tG162 : (Cond.static y_N_extended : Cond) ∈ lw_tbl := List.mem_of_getElem? (i := 348) rfl
set_option maxRecDepth 100000 in
theorem tG163 : (Cond.code y_N_extended b_N_extended 4 (some .long) : Cond) ∈ lw_tbl := List.mem_of_getElem? (i := 349) rfl
set_option maxRecDepth 100000 in
theorem tG164 : (Cond.methodLink R_S 87 y_N_trimmed : Cond) ∈ lw_tbl := List.mem_of_getElem? (i := 350) rfl
set_option maxRecDepth 100000 in
theorem tG165 : (Cond.static y_N_trimmed : Cond) ∈ lw_tbl := List.mem_of_getElem? (i := 351) rfl
set_option maxRecDepth 100000 in
theorem tG166 : (Cond.code y_N_trimmed b_N_trimmed 3 (some .long) : Cond) ∈ lw_tbl := List.mem_of_getElem? (i := 352) rfl
set_option maxRecDepth 100000 in
theorem tG167 : (Cond.methodLink R_N 31 y_N_lowest : Cond) ∈ lw_tbl := List.mem_of_getElem? (i := 353) rfl
set_option maxRecDepth 100000 in
theorem tG168 : (Cond.static y_N_lowest : Cond) ∈ lw_tbl := List.mem_of_getElem? (i := 354) rfl
set_option maxRecDepth 100000 in
theorem tG169 : (Cond.code y_N_lowest b_N_lowest 1 (some .long) : Cond) ∈ lw_tbl := List.mem_of_getElem? (i := 355) rfl
set_option maxRecDepth 100000 in
theorem tG170 : (Cond.methodLink R_S 90 y_V_signExtend : Cond) ∈ lw_tbl := List.mem_of_getElem? (i := 356) rfl
set_option maxRecDepth 100000 in
theorem tG171 : (Cond.instanceMethod y_V_signExtend : Cond) ∈ lw_tbl := List.mem_of_getElem? (i := 357) rfl
set_option maxRecDepth 100000 in
theorem tG172 : (Cond.selects R_V y_V_signExtend y_V_signExtend : Cond) ∈ lw_tbl := List.mem_of_getElem? (i := 358) rfl
set_option maxRecDepth 100000 in
theorem tG173 : (Cond.code y_V_signExtend b_V_signExtend 12 none : Cond) ∈ lw_tbl := List.mem_of_getElem? (i := 359) rfl
set_option maxRecDepth 100000 in
theorem tG174 : (Cond.methodLink R_V 105 y_V_trim : Cond) ∈ lw_tbl := List.mem_of_getElem? (i := 360) rfl
set_option maxRecDepth 100000 in
theorem tG175 : (Cond.instanceMethod y_V_trim : Cond) ∈ lw_tbl := List.mem_of_getElem? (i := 361) rfl
set_option maxRecDepth 100000 in
theorem tG176 : (Cond.selects R_V y_V_trim y_V_trim : Cond) ∈ lw_tbl := List.mem_of_getElem? (i := 362) rfl
set_option maxRecDepth 100000 in
theorem tG177 : (Cond.code y_V_trim b_V_trim 13 none : Cond) ∈ lw_tbl := List.mem_of_getElem? (i := 363) rfl
set_option maxRecDepth 100000 in
theorem tG178 : (Cond.methodLink R_V 95 y_N_lowest : Cond) ∈ lw_tbl := List.mem_of_getElem? (i := 364) rfl
set_option maxRecDepth 100000 in
theorem tG179 : (Cond.methodLink R_V 99 y_V_sayAll : Cond) ∈ lw_tbl := List.mem_of_getElem? (i := 365) rfl
set_option maxRecDepth 100000 in
theorem tG180 : (Cond.methodLink R_V 102 y_V_tighten : Cond) ∈ lw_tbl := List.mem_of_getElem? (i := 366) rfl
set_option maxRecDepth 100000 in
theorem tG181 : (Cond.methodLink R_V 109 y_N_extended : Cond) ∈ lw_tbl := List.mem_of_getElem? (i := 367) rfl
set_option maxRecDepth 100000 in
theorem tG182 : (Cond.constantLong R_V 113 (2) : Cond) ∈ lw_tbl := List.mem_of_getElem? (i := 368) rfl
set_option maxRecDepth 100000 in
theorem tG183 : (Cond.methodLink R_S 93 y_V_trim : Cond) ∈ lw_tbl := List.mem_of_getElem? (i := 369) rfl
set_option maxRecDepth 100000 in
theorem tG184 : (Cond.methodLink R_S 96 y_O_make : Cond) ∈ lw_tbl := List.mem_of_getElem? (i := 370) rfl
set_option maxRecDepth 100000 in
theorem tG185 : (Cond.static y_O_make : Cond) ∈ lw_tbl := List.mem_of_getElem? (i := 371) rfl
set_option maxRecDepth 100000 in
theorem tG186 : (Cond.code y_O_make b_O_make 5 none : Cond) ∈ lw_tbl := List.mem_of_getElem? (i := 372) rfl
set_option maxRecDepth 100000 in
theorem tG187 : (Cond.methodLink R_O 13 y_V_sayAll : Cond) ∈ lw_tbl := List.mem_of_getElem? (i := 373) rfl
set_option maxRecDepth 100000 in
theorem tG188 : (Cond.methodLink R_O 18 y_O_addition : Cond) ∈ lw_tbl := List.mem_of_getElem? (i := 374) rfl
set_option maxRecDepth 100000 in
theorem tG189 : (Cond.static y_O_addition : Cond) ∈ lw_tbl := List.mem_of_getElem? (i := 375) rfl
set_option maxRecDepth 100000 in
theorem tG190 : (Cond.code y_O_addition b_O_addition 11 none : Cond) ∈ lw_tbl := List.mem_of_getElem? (i := 376) rfl
set_option maxRecDepth 100000 in
theorem tG191 : (Cond.methodLink R_O 45 y_V_sayBits : Cond) ∈ lw_tbl := List.mem_of_getElem? (i := 377) rfl
set_option maxRecDepth 100000 in
theorem tG192 : (Cond.methodLink R_O 72 y_N_below : Cond) ∈ lw_tbl := List.mem_of_getElem? (i := 378) rfl
set_option maxRecDepth 100000 in
theorem tG193 : (Cond.methodLink R_O 76 y_V_sayUnsigned : Cond) ∈ lw_tbl := List.mem_of_getElem? (i := 379) rfl
set_option maxRecDepth 100000 in
theorem tG194 : (Cond.methodLink R_O 82 y_N_sumFits : Cond) ∈ lw_tbl := List.mem_of_getElem? (i := 380) rfl
set_option maxRecDepth 100000 in
theorem tG195 : (Cond.static y_N_sumFits : Cond) ∈ lw_tbl := List.mem_of_getElem? (i := 381) rfl
set_option maxRecDepth 100000 in
theorem tG196 : (Cond.code y_N_sumFits b_N_sumFits 6 (some .boolean) : Cond) ∈ lw_tbl := List.mem_of_getElem? (i := 382) rfl
set_option maxRecDepth 100000 in
theorem tG197 : (Cond.methodLink R_O 88 y_V_saySigned : Cond) ∈ lw_tbl := List.mem_of_getElem? (i := 383) rfl
set_option maxRecDepth 100000 in
theorem tG198 : (Cond.methodLink R_O 24 y_O_subtraction : Cond) ∈ lw_tbl := List.mem_of_getElem? (i := 384) rfl
set_option maxRecDepth 100000 in
theorem tG199 : (Cond.static y_O_subtraction : Cond) ∈ lw_tbl := List.mem_of_getElem? (i := 385) rfl
set_option maxRecDepth 100000 in
theorem tG200 : (Cond.code y_O_subtraction b_O_subtraction 7 none : Cond) ∈ lw_tbl := List.mem_of_getElem? (i := 386) rfl
set_option maxRecDepth 100000 in
theorem tG201 : (Cond.methodLink R_O 91 y_N_differenceFits : Cond) ∈ lw_tbl := List.mem_of_getElem? (i := 387) rfl
set_option maxRecDepth 100000 in
theorem tG202 : (Cond.static y_N_differenceFits : Cond) ∈ lw_tbl := List.mem_of_getElem? (i := 388) rfl
set_option maxRecDepth 100000 in
theorem tG203 : (Cond.code y_N_differenceFits b_N_differenceFits 6 (some .boolean) : Cond) ∈ lw_tbl := List.mem_of_getElem? (i := 389) rfl
set_option maxRecDepth 100000 in
theorem tG204 : (Cond.methodLink R_O 27 y_O_multiplication : Cond) ∈ lw_tbl := List.mem_of_getElem? (i := 390) rfl
set_option maxRecDepth 100000 in
theorem tG205 : (Cond.static y_O_multiplication : Cond) ∈ lw_tbl := List.mem_of_getElem? (i := 391) rfl
set_option maxRecDepth 100000 in
theorem tG206 : (Cond.code y_O_multiplication b_O_multiplication 13 none : Cond) ∈ lw_tbl := List.mem_of_getElem? (i := 392) rfl
set_option maxRecDepth 100000 in
theorem tG207 : (Cond.methodLink R_O 94 y_O_knownBelow : Cond) ∈ lw_tbl := List.mem_of_getElem? (i := 393) rfl
set_option maxRecDepth 100000 in
theorem tG208 : (Cond.static y_O_knownBelow : Cond) ∈ lw_tbl := List.mem_of_getElem? (i := 394) rfl
set_option maxRecDepth 100000 in
theorem tG209 : (Cond.code y_O_knownBelow b_O_knownBelow 1 (some .int) : Cond) ∈ lw_tbl := List.mem_of_getElem? (i := 395) rfl
set_option maxRecDepth 100000 in
theorem tG210 : (Cond.methodLink R_O 122 y_N_zerosAtEnd : Cond) ∈ lw_tbl := List.mem_of_getElem? (i := 396) rfl
set_option maxRecDepth 100000 in
theorem tG211 : (Cond.static y_N_zerosAtEnd : Cond) ∈ lw_tbl := List.mem_of_getElem? (i := 397) rfl
set_option maxRecDepth 100000 in
theorem tG212 : (Cond.code y_N_zerosAtEnd b_N_zerosAtEnd 2 (some .int) : Cond) ∈ lw_tbl := List.mem_of_getElem? (i := 398) rfl
set_option maxRecDepth 100000 in
theorem tG213 : (Cond.methodLink R_N 23 y_Lo_bitCount : Cond) ∈ lw_tbl := List.mem_of_getElem? (i := 399) rfl
set_option maxRecDepth 100000 in
theorem tG214 : (Cond.static y_Lo_bitCount : Cond) ∈ lw_tbl := List.mem_of_getElem? (i := 400) rfl
set_option maxRecDepth 100000 in
theorem tG215 : (Cond.code y_Lo_bitCount b_Lo_bitCount 2 (some .int) : Cond) ∈ lw_tbl := List.mem_of_getElem? (i := 401) rfl
set_option maxRecDepth 100000 in
theorem tG216 : (Cond.constantLong R_Lo 314 (6148914691236517205) : Cond) ∈ lw_tbl := List.mem_of_getElem? (i := 402) rfl
set_option maxRecDepth 100000 in
theorem tG217 : (Cond.constantLong R_Lo 316 (3689348814741910323) : Cond) ∈ lw_tbl := List.mem_of_getElem? (i := 403) rfl
set_option maxRecDepth 100000 in
theorem tG218 : (Cond.constantLong R_Lo 318 (1085102592571150095) : Cond) ∈ lw_tbl := List.mem_of_getElem? (i := 404) rfl
set_option maxRecDepth 100000 in
theorem tG219 : (Cond.methodLink R_O 98 y_O_zerosBelow : Cond) ∈ lw_tbl := List.mem_of_getElem? (i := 405) rfl
set_option maxRecDepth 100000 in
theorem tG220 : (Cond.static y_O_zerosBelow : Cond) ∈ lw_tbl := List.mem_of_getElem? (i := 406) rfl
set_option maxRecDepth 100000 in
theorem tG221 : (Cond.code y_O_zerosBelow b_O_zerosBelow 1 (some .int) : Cond) ∈ lw_tbl := List.mem_of_getElem? (i := 407) rfl
set_option maxRecDepth 100000 in
theorem tG222 : (Cond.methodLink R_O 101 Lib.Math.min.name : Cond) ∈ lw_tbl := List.mem_of_getElem? (i := 408) rfl
set_option maxRecDepth 100000 in
theorem tG223 : (Cond.static Lib.Math.min.name : Cond) ∈ lw_tbl := List.mem_of_getElem? (i := 409) rfl
set_option maxRecDepth 100000 in
theorem tG224 : (Cond.code Lib.Math.min.name Lib.Math.min.code 2 (some .int) : Cond) ∈ lw_tbl := List.mem_of_getElem? (i := 410) rfl
set_option maxRecDepth 100000 in
theorem tG225 : (Cond.methodLink R_O 107 y_N_lowest : Cond) ∈ lw_tbl := List.mem_of_getElem? (i := 411) rfl
set_option maxRecDepth 100000 in
theorem tG226 : (Cond.constantLong R_O 43 (-1) : Cond) ∈ lw_tbl := List.mem_of_getElem? (i := 412) rfl
set_option maxRecDepth 100000 in
theorem tG227 : (Cond.methodLink R_O 111 y_N_unsignedProductFits : Cond) ∈ lw_tbl := List.mem_of_getElem? (i := 413) rfl
set_option maxRecDepth 100000 in
theorem tG228 : (Cond.static y_N_unsignedProductFits : Cond) ∈ lw_tbl := List.mem_of_getElem? (i := 414) rfl
set_option maxRecDepth 100000 in
theorem tG229 : (Cond.code y_N_unsignedProductFits b_N_unsignedProductFits 4 (some .boolean) : Cond) ∈ lw_tbl := List.mem_of_getElem? (i := 415) rfl
set_option maxRecDepth 100000 in
theorem tG230 : (Cond.methodLink R_N 19 y_N_quotient : Cond) ∈ lw_tbl := List.mem_of_getElem? (i := 416) rfl
set_option maxRecDepth 100000 in
theorem tG231 : (Cond.static y_N_quotient : Cond) ∈ lw_tbl := List.mem_of_getElem? (i := 417) rfl
set_option maxRecDepth 100000 in
theorem tG232 : (Cond.code y_N_quotient b_N_quotient 6 (some .long) : Cond) ∈ lw_tbl := List.mem_of_getElem? (i := 418) rfl
set_option maxRecDepth 100000 in
theorem tG233 : (Cond.methodLink R_O 114 y_N_productFits : Cond) ∈ lw_tbl := List.mem_of_getElem? (i := 419) rfl
set_option maxRecDepth 100000 in
theorem tG234 : (Cond.static y_N_productFits : Cond) ∈ lw_tbl := List.mem_of_getElem? (i := 420) rfl
set_option maxRecDepth 100000 in
theorem tG235 : (Cond.code y_N_productFits b_N_productFits 4 (some .boolean) : Cond) ∈ lw_tbl := List.mem_of_getElem? (i := 421) rfl
set_option maxRecDepth 100000 in
theorem tG236 : (Cond.methodLink R_O 117 Lib.MathLoose.min_long.x : Cond) ∈ lw_tbl := List.mem_of_getElem? (i := 422) rfl
set_option maxRecDepth 100000 in
theorem tG237 : (Cond.methodLink R_O 119 Lib.MathLoose.max_long.x : Cond) ∈ lw_tbl := List.mem_of_getElem? (i := 423) rfl
set_option maxRecDepth 100000 in
theorem tG238 : (Cond.methodLink R_O 30 y_O_division : Cond) ∈ lw_tbl := List.mem_of_getElem? (i := 424) rfl
set_option maxRecDepth 100000 in
theorem tG239 : (Cond.static y_O_division : Cond) ∈ lw_tbl := List.mem_of_getElem? (i := 425) rfl
set_option maxRecDepth 100000 in
theorem tG240 : (Cond.code y_O_division b_O_division 3 none : Cond) ∈ lw_tbl := List.mem_of_getElem? (i := 426) rfl
set_option maxRecDepth 100000 in
theorem tG241 : (Cond.methodLink R_O 7 y_N_quotient : Cond) ∈ lw_tbl := List.mem_of_getElem? (i := 427) rfl
set_option maxRecDepth 100000 in
theorem tG242 : (Cond.methodLink R_O 33 y_O_remainder : Cond) ∈ lw_tbl := List.mem_of_getElem? (i := 428) rfl
set_option maxRecDepth 100000 in
theorem tG243 : (Cond.static y_O_remainder : Cond) ∈ lw_tbl := List.mem_of_getElem? (i := 429) rfl
set_option maxRecDepth 100000 in
theorem tG244 : (Cond.code y_O_remainder b_O_remainder 3 none : Cond) ∈ lw_tbl := List.mem_of_getElem? (i := 430) rfl
set_option maxRecDepth 100000 in
theorem tG245 : (Cond.methodLink R_O 65 y_V_take : Cond) ∈ lw_tbl := List.mem_of_getElem? (i := 431) rfl
set_option maxRecDepth 100000 in
theorem tG246 : (Cond.methodLink R_O 52 y_N_less : Cond) ∈ lw_tbl := List.mem_of_getElem? (i := 432) rfl
set_option maxRecDepth 100000 in
theorem tG247 : (Cond.methodLink R_O 58 y_N_more : Cond) ∈ lw_tbl := List.mem_of_getElem? (i := 433) rfl
set_option maxRecDepth 100000 in
theorem tG248 : (Cond.methodLink R_O 61 y_O_shift : Cond) ∈ lw_tbl := List.mem_of_getElem? (i := 434) rfl
set_option maxRecDepth 100000 in
theorem tG249 : (Cond.static y_O_shift : Cond) ∈ lw_tbl := List.mem_of_getElem? (i := 435) rfl
set_option maxRecDepth 100000 in
theorem tG250 : (Cond.code y_O_shift b_O_shift 8 none : Cond) ∈ lw_tbl := List.mem_of_getElem? (i := 436) rfl
set_option maxRecDepth 100000 in
theorem tG251 : (Cond.methodLink R_O 126 y_V_isSingle : Cond) ∈ lw_tbl := List.mem_of_getElem? (i := 437) rfl
set_option maxRecDepth 100000 in
theorem tG252 : (Cond.instanceMethod y_V_isSingle : Cond) ∈ lw_tbl := List.mem_of_getElem? (i := 438) rfl
set_option maxRecDepth 100000 in
theorem tG253 : (Cond.selects R_V y_V_isSingle y_V_isSingle : Cond) ∈ lw_tbl := List.mem_of_getElem? (i := 439) rfl
set_option maxRecDepth 100000 in
theorem tG254 : (Cond.code y_V_isSingle b_V_isSingle 1 (some .boolean) : Cond) ∈ lw_tbl := List.mem_of_getElem? (i := 440) rfl
set_option maxRecDepth 100000 in
theorem tG255 : (Cond.methodLink R_O 130 y_O_shiftBy : Cond) ∈ lw_tbl := List.mem_of_getElem? (i := 441) rfl
set_option maxRecDepth 100000 in
theorem tG256 : (Cond.static y_O_shiftBy : Cond) ∈ lw_tbl := List.mem_of_getElem? (i := 442) rfl
set_option maxRecDepth 100000 in
theorem tG257 : (Cond.code y_O_shiftBy b_O_shiftBy 4 none : Cond) ∈ lw_tbl := List.mem_of_getElem? (i := 443) rfl
set_option maxRecDepth 100000 in
theorem tG258 : (Cond.methodLink R_O 69 y_V_tighten : Cond) ∈ lw_tbl := List.mem_of_getElem? (i := 444) rfl
set_option maxRecDepth 100000 in
theorem tG259 : (Cond.methodLink R_S 100 y_O_reckon : Cond) ∈ lw_tbl := List.mem_of_getElem? (i := 445) rfl
set_option maxRecDepth 100000 in
theorem tG260 : (Cond.static y_O_reckon : Cond) ∈ lw_tbl := List.mem_of_getElem? (i := 446) rfl
set_option maxRecDepth 100000 in
theorem tG261 : (Cond.code y_O_reckon b_O_reckon 7 (some .long) : Cond) ∈ lw_tbl := List.mem_of_getElem? (i := 447) rfl
set_option maxRecDepth 100000 in
theorem tG262 : (Cond.instanceMethod y_S_cut : Cond) ∈ lw_tbl := List.mem_of_getElem? (i := 452) rfl
set_option maxRecDepth 100000 in
theorem tG263 : (Cond.selects R_S y_S_cut y_S_cut : Cond) ∈ lw_tbl := List.mem_of_getElem? (i := 453) rfl
set_option maxRecDepth 100000 in
theorem tG264 : (Cond.code y_S_cut b_S_cut 4 none : Cond) ∈ lw_tbl := List.mem_of_getElem? (i := 454) rfl
set_option maxRecDepth 100000 in
theorem tG265 : (Cond.instanceMethod y_S_extend : Cond) ∈ lw_tbl := List.mem_of_getElem? (i := 460) rfl
set_option maxRecDepth 100000 in
theorem tG266 : (Cond.selects R_S y_S_extend y_S_extend : Cond) ∈ lw_tbl := List.mem_of_getElem? (i := 461) rfl
set_option maxRecDepth 100000 in
theorem tG267 : (Cond.code y_S_extend b_S_extend 4 none : Cond) ∈ lw_tbl := List.mem_of_getElem? (i := 462) rfl
set_option maxRecDepth 100000 in
theorem tG268 : (Cond.instanceMethod y_S_swap : Cond) ∈ lw_tbl := List.mem_of_getElem? (i := 468) rfl
set_option maxRecDepth 100000 in
theorem tG269 : (Cond.selects R_S y_S_swap y_S_swap : Cond) ∈ lw_tbl := List.mem_of_getElem? (i := 469) rfl
set_option maxRecDepth 100000 in
theorem tG270 : (Cond.code y_S_swap b_S_swap 4 none : Cond) ∈ lw_tbl := List.mem_of_getElem? (i := 470) rfl
set_option maxRecDepth 100000 in
theorem tG271 : (Cond.methodLink R_S 110 y_V_turnBytes : Cond) ∈ lw_tbl := List.mem_of_getElem? (i := 472) rfl
set_option maxRecDepth 100000 in
theorem tG272 : (Cond.instanceMethod y_V_turnBytes : Cond) ∈ lw_tbl := List.mem_of_getElem? (i := 473) rfl
set_option maxRecDepth 100000 in
theorem tG273 : (Cond.selects R_V y_V_turnBytes y_V_turnBytes : Cond) ∈ lw_tbl := List.mem_of_getElem? (i := 474) rfl
set_option maxRecDepth 100000 in
theorem tG274 : (Cond.code y_V_turnBytes b_V_turnBytes 6 none : Cond) ∈ lw_tbl := List.mem_of_getElem? (i := 475) rfl
set_option maxRecDepth 100000 in
theorem tG275 : (Cond.methodLink R_V 115 y_N_turned : Cond) ∈ lw_tbl := List.mem_of_getElem? (i := 476) rfl
set_option maxRecDepth 100000 in
theorem tG276 : (Cond.static y_N_turned : Cond) ∈ lw_tbl := List.mem_of_getElem? (i := 477) rfl
set_option maxRecDepth 100000 in
theorem tG277 : (Cond.code y_N_turned b_N_turned 6 (some .long) : Cond) ∈ lw_tbl := List.mem_of_getElem? (i := 478) rfl
set_option maxRecDepth 100000 in
theorem tG278 : (Cond.constantLong R_N 35 (255) : Cond) ∈ lw_tbl := List.mem_of_getElem? (i := 479) rfl
set_option maxRecDepth 100000 in
theorem tG279 : (Cond.methodLink R_S 113 y_N_turned : Cond) ∈ lw_tbl := List.mem_of_getElem? (i := 480) rfl
set_option maxRecDepth 100000 in
theorem tG280 : (Cond.instanceMethod y_S_join : Cond) ∈ lw_tbl := List.mem_of_getElem? (i := 485) rfl
set_option maxRecDepth 100000 in
theorem tG281 : (Cond.selects R_S y_S_join y_S_join : Cond) ∈ lw_tbl := List.mem_of_getElem? (i := 486) rfl
set_option maxRecDepth 100000 in
theorem tG282 : (Cond.code y_S_join b_S_join 5 none : Cond) ∈ lw_tbl := List.mem_of_getElem? (i := 487) rfl
set_option maxRecDepth 100000 in
theorem tG283 : (Cond.methodLink R_S 116 y_V_spread : Cond) ∈ lw_tbl := List.mem_of_getElem? (i := 488) rfl
set_option maxRecDepth 100000 in
theorem tG284 : (Cond.instanceMethod y_V_spread : Cond) ∈ lw_tbl := List.mem_of_getElem? (i := 489) rfl
set_option maxRecDepth 100000 in
theorem tG285 : (Cond.selects R_V y_V_spread y_V_spread : Cond) ∈ lw_tbl := List.mem_of_getElem? (i := 490) rfl
set_option maxRecDepth 100000 in
theorem tG286 : (Cond.code y_V_spread b_V_spread 3 none : Cond) ∈ lw_tbl := List.mem_of_getElem? (i := 491) rfl
set_option maxRecDepth 100000 in
theorem tG287 : (Cond.instanceMethod y_S_widen : Cond) ∈ lw_tbl := List.mem_of_getElem? (i := 496) rfl
set_option maxRecDepth 100000 in
theorem tG288 : (Cond.selects R_S y_S_widen y_S_widen : Cond) ∈ lw_tbl := List.mem_of_getElem? (i := 497) rfl
set_option maxRecDepth 100000 in
theorem tG289 : (Cond.code y_S_widen b_S_widen 4 none : Cond) ∈ lw_tbl := List.mem_of_getElem? (i := 498) rfl
set_option maxRecDepth 100000 in
theorem tG290 : (Cond.instanceMethod y_S_branch : Cond) ∈ lw_tbl := List.mem_of_getElem? (i := 503) rfl
set_option maxRecDepth 100000 in
theorem tG291 : (Cond.selects R_S y_S_branch y_S_branch : Cond) ∈ lw_tbl := List.mem_of_getElem? (i := 504) rfl
set_option maxRecDepth 100000 in
theorem tG292 : (Cond.code y_S_branch b_S_branch 5 (some .boolean) : Cond) ∈ lw_tbl := List.mem_of_getElem? (i := 505) rfl
set_option maxRecDepth 100000 in
theorem tG293 : (Cond.methodLink R_S 120 y_S_requireComparison : Cond) ∈ lw_tbl := List.mem_of_getElem? (i := 506) rfl
set_option maxRecDepth 100000 in
theorem tG294 : (Cond.static y_S_requireComparison : Cond) ∈ lw_tbl := List.mem_of_getElem? (i := 507) rfl
set_option maxRecDepth 100000 in
theorem tG295 : (Cond.code y_S_requireComparison b_S_requireComparison 3 none : Cond) ∈ lw_tbl := List.mem_of_getElem? (i := 508) rfl
set_option maxRecDepth 100000 in
theorem tG296 : (Cond.methodLink R_S 124 y_C_isSo : Cond) ∈ lw_tbl := List.mem_of_getElem? (i := 511) rfl
set_option maxRecDepth 100000 in
theorem tG297 : (Cond.static y_C_isSo : Cond) ∈ lw_tbl := List.mem_of_getElem? (i := 512) rfl
set_option maxRecDepth 100000 in
theorem tG298 : (Cond.code y_C_isSo b_C_isSo 5 (some .boolean) : Cond) ∈ lw_tbl := List.mem_of_getElem? (i := 513) rfl
set_option maxRecDepth 100000 in
theorem tG299 : (Cond.methodLink R_C 7 y_N_below : Cond) ∈ lw_tbl := List.mem_of_getElem? (i := 514) rfl
set_option maxRecDepth 100000 in
theorem tG300 : (Cond.methodLink R_S 130 y_C_opposite : Cond) ∈ lw_tbl := List.mem_of_getElem? (i := 515) rfl
set_option maxRecDepth 100000 in
theorem tG301 : (Cond.static y_C_opposite : Cond) ∈ lw_tbl := List.mem_of_getElem? (i := 516) rfl
set_option maxRecDepth 100000 in
theorem tG302 : (Cond.code y_C_opposite b_C_opposite 1 (some .int) : Cond) ∈ lw_tbl := List.mem_of_getElem? (i := 517) rfl
set_option maxRecDepth 100000 in
theorem tG303 : (Cond.methodLink R_S 134 y_C_refine : Cond) ∈ lw_tbl := List.mem_of_getElem? (i := 518) rfl
set_option maxRecDepth 100000 in
theorem tG304 : (Cond.static y_C_refine : Cond) ∈ lw_tbl := List.mem_of_getElem? (i := 519) rfl
set_option maxRecDepth 100000 in
theorem tG305 : (Cond.code y_C_refine b_C_refine 3 none : Cond) ∈ lw_tbl := List.mem_of_getElem? (i := 520) rfl
set_option maxRecDepth 100000 in
theorem tG306 : (Cond.methodLink R_C 15 y_C_equate : Cond) ∈ lw_tbl := List.mem_of_getElem? (i := 521) rfl
set_option maxRecDepth 100000 in
theorem tG307 : (Cond.static y_C_equate : Cond) ∈ lw_tbl := List.mem_of_getElem? (i := 522) rfl
set_option maxRecDepth 100000 in
theorem tG308 : (Cond.code y_C_equate b_C_equate 2 none : Cond) ∈ lw_tbl := List.mem_of_getElem? (i := 523) rfl
set_option maxRecDepth 100000 in
theorem tG309 : (Cond.constantLong R_C 52 (-1) : Cond) ∈ lw_tbl := List.mem_of_getElem? (i := 524) rfl
set_option maxRecDepth 100000 in
theorem tG310 : (Cond.methodLink R_C 58 y_V_sayBits : Cond) ∈ lw_tbl := List.mem_of_getElem? (i := 525) rfl
set_option maxRecDepth 100000 in
theorem tG311 : (Cond.methodLink R_C 65 y_N_more : Cond) ∈ lw_tbl := List.mem_of_getElem? (i := 526) rfl
set_option maxRecDepth 100000 in
theorem tG312 : (Cond.methodLink R_C 72 y_N_less : Cond) ∈ lw_tbl := List.mem_of_getElem? (i := 527) rfl
set_option maxRecDepth 100000 in
theorem tG313 : (Cond.methodLink R_C 75 y_V_sayUnsigned : Cond) ∈ lw_tbl := List.mem_of_getElem? (i := 528) rfl
set_option maxRecDepth 100000 in
theorem tG314 : (Cond.methodLink R_C 81 Lib.MathLoose.max_long.x : Cond) ∈ lw_tbl := List.mem_of_getElem? (i := 529) rfl
set_option maxRecDepth 100000 in
theorem tG315 : (Cond.methodLink R_C 89 Lib.MathLoose.min_long.x : Cond) ∈ lw_tbl := List.mem_of_getElem? (i := 530) rfl
set_option maxRecDepth 100000 in
theorem tG316 : (Cond.methodLink R_C 92 y_V_saySigned : Cond) ∈ lw_tbl := List.mem_of_getElem? (i := 531) rfl
set_option maxRecDepth 100000 in
theorem tG317 : (Cond.methodLink R_C 95 y_V_take : Cond) ∈ lw_tbl := List.mem_of_getElem? (i := 532) rfl
set_option maxRecDepth 100000 in
theorem tG318 : (Cond.methodLink R_C 19 y_C_part : Cond) ∈ lw_tbl := List.mem_of_getElem? (i := 533) rfl
set_option maxRecDepth 100000 in
theorem tG319 : (Cond.static y_C_part : Cond) ∈ lw_tbl := List.mem_of_getElem? (i := 534) rfl
set_option maxRecDepth 100000 in
theorem tG320 : (Cond.code y_C_part b_C_part 5 none : Cond) ∈ lw_tbl := List.mem_of_getElem? (i := 535) rfl
set_option maxRecDepth 100000 in
theorem tG321 : (Cond.methodLink R_C 99 y_V_isSingle : Cond) ∈ lw_tbl := List.mem_of_getElem? (i := 536) rfl
set_option maxRecDepth 100000 in
theorem tG322 : (Cond.methodLink R_C 103 y_C_leaveOut : Cond) ∈ lw_tbl := List.mem_of_getElem? (i := 537) rfl
set_option maxRecDepth 100000 in
theorem tG323 : (Cond.static y_C_leaveOut : Cond) ∈ lw_tbl := List.mem_of_getElem? (i := 538) rfl
set_option maxRecDepth 100000 in
theorem tG324 : (Cond.code y_C_leaveOut b_C_leaveOut 3 none : Cond) ∈ lw_tbl := List.mem_of_getElem? (i := 539) rfl
set_option maxRecDepth 100000 in
theorem tG325 : (Cond.methodLink R_C 22 y_C_orderStrictly : Cond) ∈ lw_tbl := List.mem_of_getElem? (i := 540) rfl
set_option maxRecDepth 100000 in
theorem tG326 : (Cond.static y_C_orderStrictly : Cond) ∈ lw_tbl := List.mem_of_getElem? (i := 541) rfl
set_option maxRecDepth 100000 in
theorem tG327 : (Cond.code y_C_orderStrictly b_C_orderStrictly 2 none : Cond) ∈ lw_tbl := List.mem_of_getElem? (i := 542) rfl
set_option maxRecDepth 100000 in
theorem tG328 : (Cond.methodLink R_C 25 y_C_order : Cond) ∈ lw_tbl := List.mem_of_getElem? (i := 543) rfl
set_option maxRecDepth 100000 in
theorem tG329 : (Cond.static y_C_order : Cond) ∈ lw_tbl := List.mem_of_getElem? (i := 544) rfl
set_option maxRecDepth 100000 in
theorem tG330 : (Cond.code y_C_order b_C_order 2 none : Cond) ∈ lw_tbl := List.mem_of_getElem? (i := 545) rfl
set_option maxRecDepth 100000 in
theorem tG331 : (Cond.methodLink R_C 28 y_C_orderSignedStrictly : Cond) ∈ lw_tbl := List.mem_of_getElem? (i := 546) rfl
set_option maxRecDepth 100000 in
theorem tG332 : (Cond.static y_C_orderSignedStrictly : Cond) ∈ lw_tbl := List.mem_of_getElem? (i := 547) rfl
set_option maxRecDepth 100000 in
theorem tG333 : (Cond.code y_C_orderSignedStrictly b_C_orderSignedStrictly 2 none : Cond) ∈ lw_tbl := List.mem_of_getElem? (i := 548) rfl
set_option maxRecDepth 100000 in
theorem tG334 : (Cond.constantLong R_C 109 (-9223372036854775808) : Cond) ∈ lw_tbl := List.mem_of_getElem? (i := 549) rfl
set_option maxRecDepth 100000 in
theorem tG335 : (Cond.constantLong R_C 111 (9223372036854775807) : Cond) ∈ lw_tbl := List.mem_of_getElem? (i := 550) rfl
set_option maxRecDepth 100000 in
theorem tG336 : (Cond.methodLink R_C 31 y_C_orderSigned : Cond) ∈ lw_tbl := List.mem_of_getElem? (i := 551) rfl
set_option maxRecDepth 100000 in
theorem tG337 : (Cond.static y_C_orderSigned : Cond) ∈ lw_tbl := List.mem_of_getElem? (i := 552) rfl
set_option maxRecDepth 100000 in
theorem tG338 : (Cond.code y_C_orderSigned b_C_orderSigned 2 none : Cond) ∈ lw_tbl := List.mem_of_getElem? (i := 553) rfl
set_option maxRecDepth 100000 in
theorem tG339 : (Cond.methodLink R_C 34 y_C_shareBit : Cond) ∈ lw_tbl := List.mem_of_getElem? (i := 554) rfl
set_option maxRecDepth 100000 in
theorem tG340 : (Cond.static y_C_shareBit : Cond) ∈ lw_tbl := List.mem_of_getElem? (i := 555) rfl
set_option maxRecDepth 100000 in
theorem tG341 : (Cond.code y_C_shareBit b_C_shareBit 5 none : Cond) ∈ lw_tbl := List.mem_of_getElem? (i := 556) rfl
set_option maxRecDepth 100000 in
theorem tG342 : (Cond.methodLink R_C 113 y_Lo_bitCount : Cond) ∈ lw_tbl := List.mem_of_getElem? (i := 557) rfl
set_option maxRecDepth 100000 in
theorem tG343 : (Cond.methodLink R_C 37 y_C_shareNoBit : Cond) ∈ lw_tbl := List.mem_of_getElem? (i := 558) rfl
set_option maxRecDepth 100000 in
theorem tG344 : (Cond.static y_C_shareNoBit : Cond) ∈ lw_tbl := List.mem_of_getElem? (i := 559) rfl
set_option maxRecDepth 100000 in
theorem tG345 : (Cond.code y_C_shareNoBit b_C_shareNoBit 3 none : Cond) ∈ lw_tbl := List.mem_of_getElem? (i := 560) rfl
set_option maxRecDepth 100000 in
theorem tG346 : (Cond.methodLink R_C 40 y_V_tighten : Cond) ∈ lw_tbl := List.mem_of_getElem? (i := 561) rfl
set_option maxRecDepth 100000 in
theorem tG347 : (Cond.instanceMethod y_S_decided : Cond) ∈ lw_tbl := List.mem_of_getElem? (i := 566) rfl
set_option maxRecDepth 100000 in
theorem tG348 : (Cond.selects R_S y_S_decided y_S_decided : Cond) ∈ lw_tbl := List.mem_of_getElem? (i := 567) rfl
set_option maxRecDepth 100000 in
theorem tG349 : (Cond.code y_S_decided b_S_decided 4 (some .int) : Cond) ∈ lw_tbl := List.mem_of_getElem? (i := 568) rfl
set_option maxRecDepth 100000 in
theorem tG350 : (Cond.methodLink R_S 138 y_S_canBe : Cond) ∈ lw_tbl := List.mem_of_getElem? (i := 569) rfl
set_option maxRecDepth 100000 in
theorem tG351 : (Cond.instanceMethod y_S_canBe : Cond) ∈ lw_tbl := List.mem_of_getElem? (i := 571) rfl
set_option maxRecDepth 100000 in
theorem tG352 : (Cond.code y_S_canBe b_S_canBe 4 (some .boolean) : Cond) ∈ lw_tbl := List.mem_of_getElem? (i := 572) rfl
set_option maxRecDepth 100000 in
theorem tG353 : (Cond.instanceMethod y_S_within : Cond) ∈ lw_tbl := List.mem_of_getElem? (i := 577) rfl
set_option maxRecDepth 100000 in
theorem tG354 : (Cond.selects R_S y_S_within y_S_within : Cond) ∈ lw_tbl := List.mem_of_getElem? (i := 578) rfl
set_option maxRecDepth 100000 in
theorem tG355 : (Cond.code y_S_within b_S_within 3 (some .boolean) : Cond) ∈ lw_tbl := List.mem_of_getElem? (i := 579) rfl
set_option maxRecDepth 100000 in
theorem tG356 : (Cond.methodLink R_S 142 y_V_covers : Cond) ∈ lw_tbl := List.mem_of_getElem? (i := 580) rfl
set_option maxRecDepth 100000 in
theorem tG357 : (Cond.instanceMethod y_V_covers : Cond) ∈ lw_tbl := List.mem_of_getElem? (i := 581) rfl
set_option maxRecDepth 100000 in
theorem tG358 : (Cond.selects R_V y_V_covers y_V_covers : Cond) ∈ lw_tbl := List.mem_of_getElem? (i := 582) rfl
set_option maxRecDepth 100000 in
theorem tG359 : (Cond.code y_V_covers b_V_covers 2 (some .boolean) : Cond) ∈ lw_tbl := List.mem_of_getElem? (i := 583) rfl
set_option maxRecDepth 100000 in
theorem tG360 : (Cond.instanceMethod y_S_has : Cond) ∈ lw_tbl := List.mem_of_getElem? (i := 588) rfl
set_option maxRecDepth 100000 in
theorem tG361 : (Cond.selects R_S y_S_has y_S_has : Cond) ∈ lw_tbl := List.mem_of_getElem? (i := 589) rfl
set_option maxRecDepth 100000 in
theorem tG362 : (Cond.code y_S_has b_S_has 4 (some .boolean) : Cond) ∈ lw_tbl := List.mem_of_getElem? (i := 590) rfl
set_option maxRecDepth 100000 in
theorem tG363 : (Cond.instanceMethod y_S_least : Cond) ∈ lw_tbl := List.mem_of_getElem? (i := 595) rfl
set_option maxRecDepth 100000 in
theorem tG364 : (Cond.selects R_S y_S_least y_S_least : Cond) ∈ lw_tbl := List.mem_of_getElem? (i := 596) rfl
set_option maxRecDepth 100000 in
theorem tG365 : (Cond.code y_S_least b_S_least 3 (some .long) : Cond) ∈ lw_tbl := List.mem_of_getElem? (i := 597) rfl
set_option maxRecDepth 100000 in
theorem tG366 : (Cond.instanceMethod y_S_greatest : Cond) ∈ lw_tbl := List.mem_of_getElem? (i := 602) rfl
set_option maxRecDepth 100000 in
theorem tG367 : (Cond.selects R_S y_S_greatest y_S_greatest : Cond) ∈ lw_tbl := List.mem_of_getElem? (i := 603) rfl
set_option maxRecDepth 100000 in
theorem tG368 : (Cond.code y_S_greatest b_S_greatest 3 (some .long) : Cond) ∈ lw_tbl := List.mem_of_getElem? (i := 604) rfl
set_option maxRecDepth 100000 in
theorem tG369 : (Cond.instanceMethod y_S_unknown : Cond) ∈ lw_tbl := List.mem_of_getElem? (i := 609) rfl
set_option maxRecDepth 100000 in
theorem tG370 : (Cond.selects R_S y_S_unknown y_S_unknown : Cond) ∈ lw_tbl := List.mem_of_getElem? (i := 610) rfl
set_option maxRecDepth 100000 in
theorem tG371 : (Cond.code y_S_unknown b_S_unknown 2 (some .long) : Cond) ∈ lw_tbl := List.mem_of_getElem? (i := 611) rfl
set_option maxRecDepth 100000 in
theorem tG372 : (Cond.instanceMethod y_S_witness : Cond) ∈ lw_tbl := List.mem_of_getElem? (i := 616) rfl
set_option maxRecDepth 100000 in
theorem tG373 : (Cond.selects R_S y_S_witness y_S_witness : Cond) ∈ lw_tbl := List.mem_of_getElem? (i := 617) rfl
set_option maxRecDepth 100000 in
theorem tG374 : (Cond.code y_S_witness b_S_witness 2 (some .long) : Cond) ∈ lw_tbl := List.mem_of_getElem? (i := 618) rfl
set_option maxRecDepth 100000 in
theorem tG375 : (Cond.arrayClass .boolean : Cond) ∈ lw_tbl := List.mem_of_getElem? (i := 656) rfl
set_option maxRecDepth 100000 in
theorem tG376 : (Cond.selects R_S y_S_canBe y_S_canBe : Cond) ∈ lw_tbl := List.mem_of_getElem? (i := 6) rfl
set_option maxRecDepth 100000 in
theorem tG377 : (Cond.selects R_S y_S_write y_S_write : Cond) ∈ lw_tbl := List.mem_of_getElem? (i := 1) rfl
set_option maxRecDepth 100000 in
theorem tG378 : (Cond.selects R_V y_V_sayStretch y_V_sayStretch : Cond) ∈ lw_tbl := List.mem_of_getElem? (i := 5) rfl
set_option maxRecDepth 100000 in
theorem tG379 : (Cond.selects R_V y_V_openBetween y_V_openBetween : Cond) ∈ lw_tbl := List.mem_of_getElem? (i := 4) rfl
set_option maxRecDepth 100000 in
theorem tG380 : (Cond.selects R_V y_V_firstOfHalf y_V_firstOfHalf : Cond) ∈ lw_tbl := List.mem_of_getElem? (i := 2) rfl
set_option maxRecDepth 100000 in
theorem tG381 : (Cond.selects R_V y_V_lastOfHalf y_V_lastOfHalf : Cond) ∈ lw_tbl := List.mem_of_getElem? (i := 3) rfl
set_option maxRecDepth 100000 in
set_option maxHeartbeats 4000000 in
theorem tG : ∀ w ∈ gG, w ∈ lw_tbl :=
  acW tG0 (acW tG1 (acW tG2 (acW tG3 (acW tG4 (acW tG5 (acW tG6 (acW tG7 (acW tG8 (acW tG9 (acW tG10 (acW tG11 (acW tG12 (acW tG13 (acW tG14 (acW tG15 (acW tG16 (acW tG17 (acW tG18 (acW tG19 (acW tG20 (acW tG21 (acW tG22 (acW tG23 (acW tG24 (acW tG25 (acW tG26 (acW tG27 (acW tG28 (acW tG29 (acW tG30 (acW tG31 (acW tG32 (acW tG33 (acW tG34 (acW tG35 (acW tG36 (acW tG37 (acW tG38 (acW tG39 (acW tG40 (acW tG41 (acW tG42 (acW tG43 (acW tG44 (acW tG45 (acW tG46 (acW tG47 (acW tG48 (acW tG49 (acW tG50 (acW tG51 (acW tG52 (acW tG53 (acW tG54 (acW tG55 (acW tG56 (acW tG57 (acW tG58 (acW tG59 (acW tG60 (acW tG61 (acW tG62 (acW tG63 (acW tG64 (acW tG65 (acW tG66 (acW tG67 (acW tG68 (acW tG69 (acW tG70 (acW tG71 (acW tG72 (acW tG73 (acW tG74 (acW tG75 (acW tG76 (acW tG77 (acW tG78 (acW tG79 (acW tG80 (acW tG81 (acW tG82 (acW tG83 (acW tG84 (acW tG85 (acW tG86 (acW tG87 (acW tG88 (acW tG89 (acW tG90 (acW tG91 (acW tG92 (acW tG93 (acW tG94 (acW tG95 (acW tG96 (acW tG97 (acW tG98 (acW tG99 (acW tG100 (acW tG101 (acW tG102 (acW tG103 (acW tG104 (acW tG105 (acW tG106 (acW tG107 (acW tG108 (acW tG109 (acW tG110 (acW tG111 (acW tG112 (acW tG113 (acW tG114 (acW tG115 (acW tG116 (acW tG117 (acW tG118 (acW tG119 (acW tG120 (acW tG121 (acW tG122 (acW tG123 (acW tG124 (acW tG125 (acW tG126 (acW tG127 (acW tG128 (acW tG129 (acW tG130 (acW tG131 (acW tG132 (acW tG133 (acW tG134 (acW tG135 (acW tG136 (acW tG137 (acW tG138 (acW tG139 (acW tG140 (acW tG141 (acW tG142 (acW tG143 (acW tG144 (acW tG145 (acW tG146 (acW tG147 (acW tG148 (acW tG149 (acW tG150 (acW tG151 (acW tG152 (acW tG153 (acW tG154 (acW tG155 (acW tG156 (acW tG157 (acW tG158 (acW tG159 (acW tG160 (acW tG161 (acW tG162 (acW tG163 (acW tG164 (acW tG165 (acW tG166 (acW tG167 (acW tG168 (acW tG169 (acW tG170 (acW tG171 (acW tG172 (acW tG173 (acW tG174 (acW tG175 (acW tG176 (acW tG177 (acW tG178 (acW tG179 (acW tG180 (acW tG181 (acW tG182 (acW tG183 (acW tG184 (acW tG185 (acW tG186 (acW tG187 (acW tG188 (acW tG189 (acW tG190 (acW tG191 (acW tG192 (acW tG193 (acW tG194 (acW tG195 (acW tG196 (acW tG197 (acW tG198 (acW tG199 (acW tG200 (acW tG201 (acW tG202 (acW tG203 (acW tG204 (acW tG205 (acW tG206 (acW tG207 (acW tG208 (acW tG209 (acW tG210 (acW tG211 (acW tG212 (acW tG213 (acW tG214 (acW tG215 (acW tG216 (acW tG217 (acW tG218 (acW tG219 (acW tG220 (acW tG221 (acW tG222 (acW tG223 (acW tG224 (acW tG225 (acW tG226 (acW tG227 (acW tG228 (acW tG229 (acW tG230 (acW tG231 (acW tG232 (acW tG233 (acW tG234 (acW tG235 (acW tG236 (acW tG237 (acW tG238 (acW tG239 (acW tG240 (acW tG241 (acW tG242 (acW tG243 (acW tG244 (acW tG245 (acW tG246 (acW tG247 (acW tG248 (acW tG249 (acW tG250 (acW tG251 (acW tG252 (acW tG253 (acW tG254 (acW tG255 (acW tG256 (acW tG257 (acW tG258 (acW tG259 (acW tG260 (acW tG261 (acW tG262 (acW tG263 (acW tG264 (acW tG265 (acW tG266 (acW tG267 (acW tG268 (acW tG269 (acW tG270 (acW tG271 (acW tG272 (acW tG273 (acW tG274 (acW tG275 (acW tG276 (acW tG277 (acW tG278 (acW tG279 (acW tG280 (acW tG281 (acW tG282 (acW tG283 (acW tG284 (acW tG285 (acW tG286 (acW tG287 (acW tG288 (acW tG289 (acW tG290 (acW tG291 (acW tG292 (acW tG293 (acW tG294 (acW tG295 (acW tG296 (acW tG297 (acW tG298 (acW tG299 (acW tG300 (acW tG301 (acW tG302 (acW tG303 (acW tG304 (acW tG305 (acW tG306 (acW tG307 (acW tG308 (acW tG309 (acW tG310 (acW tG311 (acW tG312 (acW tG313 (acW tG314 (acW tG315 (acW tG316 (acW tG317 (acW tG318 (acW tG319 (acW tG320 (acW tG321 (acW tG322 (acW tG323 (acW tG324 (acW tG325 (acW tG326 (acW tG327 (acW tG328 (acW tG329 (acW tG330 (acW tG331 (acW tG332 (acW tG333 (acW tG334 (acW tG335 (acW tG336 (acW tG337 (acW tG338 (acW tG339 (acW tG340 (acW tG341 (acW tG342 (acW tG343 (acW tG344 (acW tG345 (acW tG346 (acW tG347 (acW tG348 (acW tG349 (acW tG350 (acW tG351 (acW tG352 (acW tG353 (acW tG354 (acW tG355 (acW tG356 (acW tG357 (acW tG358 (acW tG359 (acW tG360 (acW tG361 (acW tG362 (acW tG363 (acW tG364 (acW tG365 (acW tG366 (acW tG367 (acW tG368 (acW tG369 (acW tG370 (acW tG371 (acW tG372 (acW tG373 (acW tG374 (acW tG375 (acW tG376 (acW tG377 (acW tG378 (acW tG379 (acW tG380 (acW tG381 (fun w h => absurd h List.not_mem_nil))))))))))))))))))))))))))))))))))))))))))))))))))))))))))))))))))))))))))))))))))))))))))))))))))))))))))))))))))))))))))))))))))))))))))))))))))))))))))))))))))))))))))))))))))))))))))))))))))))))))))))))))))))))))))))))))))))))))))))))))))))))))))))))))))))))))))))))))))))))))))))))))))))))))))))))))))))))))))))))))))))))))))))))))))))))))))))))))))))))))))))))))))))))))))))))
set_option maxRecDepth 100000 in
theorem tT : ∀ w ∈ gT, w ∈ lw_tbl := by decide +kernel
set_option maxRecDepth 100000 in
theorem tL0 : ∀ w ∈ gL0, w ∈ lw_tbl := by decide +kernel
theorem tL : ∀ w ∈ gL, w ∈ lw_tbl := fun w h => (List.mem_append.mp h).elim (fun h => (List.mem_append.mp h).elim (tG w) (tT w)) (tL0 w)
