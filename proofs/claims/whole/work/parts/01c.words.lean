/-- words of nest mates and casts -/
def isNest : Cond → Bool
  | .fieldLinkNest .. => true
  | .methodLinkNest .. => true
  | .castable .. => true
  | .declares .. => true
  | _ => false
def UN : List Cond := lw_tbl.filter isNest
theorem un {w : Cond} (i : Nat) (h : lw_tbl[i]? = some w) (hg : isNest w = true) : w ∈ UN := List.mem_filter.mpr ⟨List.mem_of_getElem? h, hg⟩
/-- all words that stay good -/
def UW : List Cond := lw_tbl.filter goodWord
theorem uw {w : Cond} (i : Nat) (h : lw_tbl[i]? = some w) (hg : goodWord w = true) : w ∈ UW := List.mem_filter.mpr ⟨List.mem_of_getElem? h, hg⟩
theorem u_se_yX3_insertPlace : (.selects RX3 yX3_insertPlace yX3_insertPlace : Cond) ∈ UW := uw 1 (by decide +kernel) (by decide +kernel)
theorem u_se_yX3_isNearer : (.selects RX3 yX3_isNearer yX3_isNearer : Cond) ∈ UW := uw 2 (by decide +kernel) (by decide +kernel)
theorem u_se_yX3_insertProduct : (.selects RX3 yX3_insertProduct yX3_insertProduct : Cond) ∈ UW := uw 3 (by decide +kernel) (by decide +kernel)
theorem u_se_yJx4a65c_add_72be8 : (.selects RJx4a65c yJx4a65c_add_72be8 yJx4a65c_add_72be8 : Cond) ∈ UW := uw 4 (by decide +kernel) (by decide +kernel)
theorem u_se_yJx4a65c_grow_d5877 : (.selects RJx4a65c yJx4a65c_grow_d5877 yJx4a65c_grow_d5877 : Cond) ∈ UW := uw 5 (by decide +kernel) (by decide +kernel)
theorem u_se_yJx4a65c_grow_92f84 : (.selects RJx4a65c yJx4a65c_grow_92f84 yJx4a65c_grow_92f84 : Cond) ∈ UW := uw 6 (by decide +kernel) (by decide +kernel)
theorem u_se_yX5_orderNumbered : (.selects RX5 yX5_orderNumbered yX5_orderNumbered : Cond) ∈ UW := uw 7 (by decide +kernel) (by decide +kernel)
theorem u_se_yX5_takesLine : (.selects RX5 yX5_takesLine yX5_takesLine : Cond) ∈ UW := uw 8 (by decide +kernel) (by decide +kernel)
theorem u_se_yX2_gather : (.selects RX2 yX2_gather yX2_gather : Cond) ∈ UW := uw 9 (by decide +kernel) (by decide +kernel)
theorem u_se_yX2_insertPlace : (.selects RX2 yX2_insertPlace yX2_insertPlace : Cond) ∈ UW := uw 10 (by decide +kernel) (by decide +kernel)
theorem u_se_yX2_fillOnward : (.selects RX2 yX2_fillOnward yX2_fillOnward : Cond) ∈ UW := uw 11 (by decide +kernel) (by decide +kernel)
theorem u_se_yX2_leastOnward : (.selects RX2 yX2_leastOnward yX2_leastOnward : Cond) ∈ UW := uw 12 (by decide +kernel) (by decide +kernel)
theorem u_se_yX2_lengthBy : (.selects RX2 yX2_lengthBy yX2_lengthBy : Cond) ∈ UW := uw 13 (by decide +kernel) (by decide +kernel)
theorem u_se_yX2_everyPlace : (.selects RX2 yX2_everyPlace yX2_everyPlace : Cond) ∈ UW := uw 14 (by decide +kernel) (by decide +kernel)
theorem u_se_yX5_mostLinesToDo : (.selects RX5 yX5_mostLinesToDo yX5_mostLinesToDo : Cond) ∈ UW := uw 15 (by decide +kernel) (by decide +kernel)
theorem u_se_yX5_takesAnyOrder : (.selects RX5 yX5_takesAnyOrder yX5_takesAnyOrder : Cond) ∈ UW := uw 16 (by decide +kernel) (by decide +kernel)
theorem u_se_yX4_noteSaving : (.selects RX4 yX4_noteSaving yX4_noteSaving : Cond) ∈ UW := uw 17 (by decide +kernel) (by decide +kernel)
theorem u_se_yX4_joinBestPair : (.selects RX4 yX4_joinBestPair yX4_joinBestPair : Cond) ∈ UW := uw 18 (by decide +kernel) (by decide +kernel)
theorem u_se_yX4_savingOf : (.selects RX4 yX4_savingOf yX4_savingOf : Cond) ∈ UW := uw 19 (by decide +kernel) (by decide +kernel)
theorem u_se_yJx4a65c_fastRemove_b59b0 : (.selects RJx4a65c yJx4a65c_fastRemove_b59b0 yJx4a65c_fastRemove_b59b0 : Cond) ∈ UW := uw 20 (by decide +kernel) (by decide +kernel)
theorem u_se_yX2_bestNext : (.selects RX2 yX2_bestNext yX2_bestNext : Cond) ∈ UW := uw 21 (by decide +kernel) (by decide +kernel)
theorem u_se_yX5_batchNumbered : (.selects RX5 yX5_batchNumbered yX5_batchNumbered : Cond) ∈ UW := uw 22 (by decide +kernel) (by decide +kernel)
theorem u_se_yX5_finish : (.selects RX5 yX5_finish yX5_finish : Cond) ∈ UW := uw 23 (by decide +kernel) (by decide +kernel)
theorem u_se_yX2_countAisles : (.selects RX2 yX2_countAisles yX2_countAisles : Cond) ∈ UW := uw 24 (by decide +kernel) (by decide +kernel)
theorem u_se_yX6_fails : (.selects RX6 yX6_fails yX6_fails : Cond) ∈ UW := uw 25 (by decide +kernel) (by decide +kernel)
theorem u_se_yX6_ranks : (.selects RX6 yX6_ranks yX6_ranks : Cond) ∈ UW := uw 26 (by decide +kernel) (by decide +kernel)
theorem u_se_yX6_turnoverOf : (.selects RX6 yX6_turnoverOf yX6_turnoverOf : Cond) ∈ UW := uw 27 (by decide +kernel) (by decide +kernel)
theorem u_se_yX6_spreads : (.selects RX6 yX6_spreads yX6_spreads : Cond) ∈ UW := uw 28 (by decide +kernel) (by decide +kernel)
theorem u_se_yX6_way : (.selects RX6 yX6_way yX6_way : Cond) ∈ UW := uw 29 (by decide +kernel) (by decide +kernel)
theorem u_se_yX6_isOrder : (.selects RX6 yX6_isOrder yX6_isOrder : Cond) ∈ UW := uw 30 (by decide +kernel) (by decide +kernel)
theorem u_se_yX6_wanted : (.selects RX6 yX6_wanted yX6_wanted : Cond) ∈ UW := uw 31 (by decide +kernel) (by decide +kernel)
theorem u_se_yX6_length : (.selects RX6 yX6_length yX6_length : Cond) ∈ UW := uw 32 (by decide +kernel) (by decide +kernel)
theorem u_se_yX6_layRoute : (.selects RX6 yX6_layRoute yX6_layRoute : Cond) ∈ UW := uw 33 (by decide +kernel) (by decide +kernel)
theorem u_se_yX6_wayOn : (.selects RX6 yX6_wayOn yX6_wayOn : Cond) ∈ UW := uw 34 (by decide +kernel) (by decide +kernel)
theorem u_se_yX6_step : (.selects RX6 yX6_step yX6_step : Cond) ∈ UW := uw 35 (by decide +kernel) (by decide +kernel)
theorem u_se_yX6_joins : (.selects RX6 yX6_joins yX6_joins : Cond) ∈ UW := uw 36 (by decide +kernel) (by decide +kernel)
theorem u_se_yX6_countLines : (.selects RX6 yX6_countLines yX6_countLines : Cond) ∈ UW := uw 37 (by decide +kernel) (by decide +kernel)
theorem u_se_yX6_productsOf : (.selects RX6 yX6_productsOf yX6_productsOf : Cond) ∈ UW := uw 38 (by decide +kernel) (by decide +kernel)
theorem u_se_yX6_closeUp : (.selects RX6 yX6_closeUp yX6_closeUp : Cond) ∈ UW := uw 39 (by decide +kernel) (by decide +kernel)
theorem u_se_yX6_isBatch : (.selects RX6 yX6_isBatch yX6_isBatch : Cond) ∈ UW := uw 40 (by decide +kernel) (by decide +kernel)
theorem u_se_yX6_farthest : (.selects RX6 yX6_farthest yX6_farthest : Cond) ∈ UW := uw 41 (by decide +kernel) (by decide +kernel)
theorem u_se_yX6_layPath : (.selects RX6 yX6_layPath yX6_layPath : Cond) ∈ UW := uw 42 (by decide +kernel) (by decide +kernel)
theorem u_in_RL : (.initialized RL : Cond) ∈ UW := uw 43 (by decide +kernel) (by decide +kernel)
theorem u_in_RX5 : (.initialized RX5 : Cond) ∈ UW := uw 44 (by decide +kernel) (by decide +kernel)
theorem u_in_RX3 : (.initialized RX3 : Cond) ∈ UW := uw 45 (by decide +kernel) (by decide +kernel)
theorem u_in_RJ9 : (.initialized RJ9 : Cond) ∈ UW := uw 46 (by decide +kernel) (by decide +kernel)
theorem u_in_RX2 : (.initialized RX2 : Cond) ∈ UW := uw 47 (by decide +kernel) (by decide +kernel)
theorem u_in_RX4 : (.initialized RX4 : Cond) ∈ UW := uw 48 (by decide +kernel) (by decide +kernel)
theorem u_in_RJxa1e45 : (.initialized RJxa1e45 : Cond) ∈ UW := uw 49 (by decide +kernel) (by decide +kernel)
theorem u_in_RJxc12de : (.initialized RJxc12de : Cond) ∈ UW := uw 50 (by decide +kernel) (by decide +kernel)
theorem u_in_RJx4a65c : (.initialized RJx4a65c : Cond) ∈ UW := uw 51 (by decide +kernel) (by decide +kernel)
theorem u_in_RX6 : (.initialized RX6 : Cond) ∈ UW := uw 52 (by decide +kernel) (by decide +kernel)
theorem u_in_java_lang_Throwable : (.initialized "java/lang/Throwable" : Cond) ∈ UW := uw 53 (by decide +kernel) (by decide +kernel)
theorem u_in_java_lang_Exception : (.initialized "java/lang/Exception" : Cond) ∈ UW := uw 54 (by decide +kernel) (by decide +kernel)
theorem u_in_java_lang_RuntimeException : (.initialized "java/lang/RuntimeException" : Cond) ∈ UW := uw 55 (by decide +kernel) (by decide +kernel)
theorem u_in_java_lang_IndexOutOfBoundsException : (.initialized "java/lang/IndexOutOfBoundsException" : Cond) ∈ UW := uw 56 (by decide +kernel) (by decide +kernel)
theorem u_in_java_lang_IllegalStateException : (.initialized "java/lang/IllegalStateException" : Cond) ∈ UW := uw 57 (by decide +kernel) (by decide +kernel)
theorem u_in_java_lang_IllegalArgumentException : (.initialized "java/lang/IllegalArgumentException" : Cond) ∈ UW := uw 58 (by decide +kernel) (by decide +kernel)
theorem u_in_RX1 : (.initialized RX1 : Cond) ∈ UW := uw 59 (by decide +kernel) (by decide +kernel)
theorem u_in_RJ8 : (.initialized RJ8 : Cond) ∈ UW := uw 60 (by decide +kernel) (by decide +kernel)
theorem u_in_RJ7 : (.initialized RJ7 : Cond) ∈ UW := uw 61 (by decide +kernel) (by decide +kernel)
theorem u_in_RJ10 : (.initialized RJ10 : Cond) ∈ UW := uw 62 (by decide +kernel) (by decide +kernel)
theorem u_in_RJ15 : (.initialized RJ15 : Cond) ∈ UW := uw 63 (by decide +kernel) (by decide +kernel)
theorem u_in_RJ3 : (.initialized RJ3 : Cond) ∈ UW := uw 64 (by decide +kernel) (by decide +kernel)
theorem u_in_RJ6 : (.initialized RJ6 : Cond) ∈ UW := uw 65 (by decide +kernel) (by decide +kernel)
theorem u_in_RX0 : (.initialized RX0 : Cond) ∈ UW := uw 66 (by decide +kernel) (by decide +kernel)
theorem u_cl_RL_8 : (.classLink RL 8 RX5 : Cond) ∈ UW := uw 67 (by decide +kernel) (by decide +kernel)
theorem u_is_RX5 : (.instantiable RX5 7 : Cond) ∈ UW := uw 68 (by decide +kernel) (by decide +kernel)
theorem u_ml_RL_85 : (.methodLink RL 85 yX5_init : Cond) ∈ UW := uw 69 (by decide +kernel) (by decide +kernel)
theorem u_im_yX5_init : (.instanceMethod yX5_init : Cond) ∈ UW := uw 70 (by decide +kernel) (by decide +kernel)
theorem u_co_yX5_init : (.code yX5_init cX5_init 4 (none) : Cond) ∈ UW := uw 71 (by decide +kernel) (by decide +kernel)
theorem u_ml_RX5_1 : (.methodLink RX5 1 objectInit : Cond) ∈ UW := uw 72 (by decide +kernel) (by decide +kernel)
theorem u_im_objectInit : (.instanceMethod objectInit : Cond) ∈ UW := uw 73 (by decide +kernel) (by decide +kernel)
theorem u_co_objectInit : (.code objectInit ⟨#[0xb1]⟩ 1 (none) : Cond) ∈ UW := uw 74 (by decide +kernel) (by decide +kernel)
theorem u_cl_RX5_7 : (.classLink RX5 7 RX3 : Cond) ∈ UW := uw 75 (by decide +kernel) (by decide +kernel)
theorem u_is_RX3 : (.instantiable RX3 7 : Cond) ∈ UW := uw 76 (by decide +kernel) (by decide +kernel)
theorem u_ml_RX5_11 : (.methodLink RX5 11 yX5_within : Cond) ∈ UW := uw 77 (by decide +kernel) (by decide +kernel)
theorem u_st_yX5_within : (.static yX5_within : Cond) ∈ UW := uw 78 (by decide +kernel) (by decide +kernel)
theorem u_co_yX5_within : (.code yX5_within cX5_within 2 (some FieldType.int) : Cond) ∈ UW := uw 79 (by decide +kernel) (by decide +kernel)
theorem u_ml_RX5_230 : (.methodLink RX5 230 yJ9_min_7cf53 : Cond) ∈ UW := uw 80 (by decide +kernel) (by decide +kernel)
theorem u_st_yJ9_min_7cf53 : (.static yJ9_min_7cf53 : Cond) ∈ UW := uw 81 (by decide +kernel) (by decide +kernel)
theorem u_co_yJ9_min_7cf53 : (.code yJ9_min_7cf53 cJ9_min_7cf53 2 (some FieldType.int) : Cond) ∈ UW := uw 82 (by decide +kernel) (by decide +kernel)
theorem u_ml_RX5_235 : (.methodLink RX5 235 yJ9_max_7cf53 : Cond) ∈ UW := uw 83 (by decide +kernel) (by decide +kernel)
theorem u_st_yJ9_max_7cf53 : (.static yJ9_max_7cf53 : Cond) ∈ UW := uw 84 (by decide +kernel) (by decide +kernel)
theorem u_co_yJ9_max_7cf53 : (.code yJ9_max_7cf53 cJ9_max_7cf53 2 (some FieldType.int) : Cond) ∈ UW := uw 85 (by decide +kernel) (by decide +kernel)
theorem u_ml_RX5_15 : (.methodLink RX5 15 yX3_init : Cond) ∈ UW := uw 86 (by decide +kernel) (by decide +kernel)
theorem u_im_yX3_init : (.instanceMethod yX3_init : Cond) ∈ UW := uw 87 (by decide +kernel) (by decide +kernel)
theorem u_co_yX3_init : (.code yX3_init cX3_init 5 (none) : Cond) ∈ UW := uw 88 (by decide +kernel) (by decide +kernel)
theorem u_ml_RX3_3 : (.methodLink RX3 3 objectInit : Cond) ∈ UW := uw 89 (by decide +kernel) (by decide +kernel)
theorem u_fl_RX3_24 : (.fieldLink RX3 24 "Aislewright$Warehouse" "aisles" "I" : Cond) ∈ UW := uw 90 (by decide +kernel) (by decide +kernel)
theorem u_fl_RX3_28 : (.fieldLink RX3 28 "Aislewright$Warehouse" "positions" "I" : Cond) ∈ UW := uw 91 (by decide +kernel) (by decide +kernel)
theorem u_fl_RX3_31 : (.fieldLink RX3 31 "Aislewright$Warehouse" "gap" "I" : Cond) ∈ UW := uw 92 (by decide +kernel) (by decide +kernel)
theorem n_fn_RX2_62 : (.fieldLinkNest RX2 62 "Aislewright$Warehouse" "gap" "I" RX5 : Cond) ∈ UN := un 93 (by decide +kernel) (by decide +kernel)
theorem u_fl_RX3_9 : (.fieldLink RX3 9 "Aislewright$Warehouse" "places" "[I" : Cond) ∈ UW := uw 94 (by decide +kernel) (by decide +kernel)
theorem n_fn_RX5_91 : (.fieldLinkNest RX5 91 "Aislewright$Warehouse" "places" "[I" RX5 : Cond) ∈ UN := un 95 (by decide +kernel) (by decide +kernel)
theorem n_fn_RX2_69 : (.fieldLinkNest RX2 69 "Aislewright$Warehouse" "places" "[I" RX5 : Cond) ∈ UN := un 96 (by decide +kernel) (by decide +kernel)
theorem u_fl_RX3_15 : (.fieldLink RX3 15 "Aislewright$Warehouse" "turnovers" "[I" : Cond) ∈ UW := uw 97 (by decide +kernel) (by decide +kernel)
theorem n_fn_RX5_95 : (.fieldLinkNest RX5 95 "Aislewright$Warehouse" "turnovers" "[I" RX5 : Cond) ∈ UN := un 98 (by decide +kernel) (by decide +kernel)
theorem u_fl_RX3_18 : (.fieldLink RX3 18 "Aislewright$Warehouse" "nearestPlaces" "[I" : Cond) ∈ UW := uw 99 (by decide +kernel) (by decide +kernel)
theorem u_fl_RX3_21 : (.fieldLink RX3 21 "Aislewright$Warehouse" "busiestProducts" "[I" : Cond) ∈ UW := uw 100 (by decide +kernel) (by decide +kernel)
theorem u_ac_116 : (.arrayClass (FieldType.int) : Cond) ∈ UW := uw 116 (by decide +kernel) (by decide +kernel)
theorem u_cl_RX5_22 : (.classLink RX5 22 RX2 : Cond) ∈ UW := uw 117 (by decide +kernel) (by decide +kernel)
theorem u_is_RX2 : (.instantiable RX2 5 : Cond) ∈ UW := uw 118 (by decide +kernel) (by decide +kernel)
theorem u_ml_RX5_24 : (.methodLink RX5 24 yX2_init : Cond) ∈ UW := uw 119 (by decide +kernel) (by decide +kernel)
theorem u_im_yX2_init : (.instanceMethod yX2_init : Cond) ∈ UW := uw 120 (by decide +kernel) (by decide +kernel)
theorem u_co_yX2_init : (.code yX2_init cX2_init 2 (none) : Cond) ∈ UW := uw 121 (by decide +kernel) (by decide +kernel)
theorem u_ml_RX2_3 : (.methodLink RX2 3 objectInit : Cond) ∈ UW := uw 122 (by decide +kernel) (by decide +kernel)
theorem u_cl_RX2_15 : (.classLink RX2 15 "[[I" : Cond) ∈ UW := uw 123 (by decide +kernel) (by decide +kernel)
theorem u_fl_RX2_23 : (.fieldLink RX2 23 "Aislewright$Router" "warehouse" "LAislewright$Warehouse;" : Cond) ∈ UW := uw 125 (by decide +kernel) (by decide +kernel)
theorem u_fl_RX2_9 : (.fieldLink RX2 9 "Aislewright$Router" "places" "[I" : Cond) ∈ UW := uw 126 (by decide +kernel) (by decide +kernel)
theorem u_fl_RX2_42 : (.fieldLink RX2 42 "Aislewright$Router" "count" "I" : Cond) ∈ UW := uw 127 (by decide +kernel) (by decide +kernel)
theorem u_fl_RX2_17 : (.fieldLink RX2 17 "Aislewright$Router" "ways" "[[I" : Cond) ∈ UW := uw 128 (by decide +kernel) (by decide +kernel)
theorem u_fl_RX2_20 : (.fieldLink RX2 20 "Aislewright$Router" "onward" "[I" : Cond) ∈ UW := uw 129 (by decide +kernel) (by decide +kernel)
theorem u_cl_RX5_31 : (.classLink RX5 31 RX4 : Cond) ∈ UW := uw 141 (by decide +kernel) (by decide +kernel)
theorem u_is_RX4 : (.instantiable RX4 3 : Cond) ∈ UW := uw 142 (by decide +kernel) (by decide +kernel)
theorem u_ml_RX5_33 : (.methodLink RX5 33 yX4_init : Cond) ∈ UW := uw 143 (by decide +kernel) (by decide +kernel)
theorem u_im_yX4_init : (.instanceMethod yX4_init : Cond) ∈ UW := uw 144 (by decide +kernel) (by decide +kernel)
theorem u_co_yX4_init : (.code yX4_init cX4_init 2 (none) : Cond) ∈ UW := uw 145 (by decide +kernel) (by decide +kernel)
theorem u_ml_RX4_3 : (.methodLink RX4 3 objectInit : Cond) ∈ UW := uw 146 (by decide +kernel) (by decide +kernel)
theorem u_cl_RX4_9 : (.classLink RX4 9 RJx4a65c : Cond) ∈ UW := uw 147 (by decide +kernel) (by decide +kernel)
theorem u_is_RJx4a65c : (.instantiable RJx4a65c 3 : Cond) ∈ UW := uw 148 (by decide +kernel) (by decide +kernel)
theorem u_ml_RX4_11 : (.methodLink RX4 11 yJx4a65c_init_da8c8 : Cond) ∈ UW := uw 149 (by decide +kernel) (by decide +kernel)
theorem u_im_yJx4a65c_init_da8c8 : (.instanceMethod yJx4a65c_init_da8c8 : Cond) ∈ UW := uw 150 (by decide +kernel) (by decide +kernel)
theorem u_co_yJx4a65c_init_da8c8 : (.code yJx4a65c_init_da8c8 cJx4a65c_init_da8c8 1 (none) : Cond) ∈ UW := uw 151 (by decide +kernel) (by decide +kernel)
theorem u_ml_RJx4a65c_1 : (.methodLink RJx4a65c 1 yJxc12de_init_da8c8 : Cond) ∈ UW := uw 152 (by decide +kernel) (by decide +kernel)
theorem u_im_yJxc12de_init_da8c8 : (.instanceMethod yJxc12de_init_da8c8 : Cond) ∈ UW := uw 153 (by decide +kernel) (by decide +kernel)
theorem u_co_yJxc12de_init_da8c8 : (.code yJxc12de_init_da8c8 cJxc12de_init_da8c8 1 (none) : Cond) ∈ UW := uw 154 (by decide +kernel) (by decide +kernel)
theorem u_ml_RJxc12de_1 : (.methodLink RJxc12de 1 yJxa1e45_init_da8c8 : Cond) ∈ UW := uw 155 (by decide +kernel) (by decide +kernel)
theorem u_im_yJxa1e45_init_da8c8 : (.instanceMethod yJxa1e45_init_da8c8 : Cond) ∈ UW := uw 156 (by decide +kernel) (by decide +kernel)
theorem u_co_yJxa1e45_init_da8c8 : (.code yJxa1e45_init_da8c8 cJxa1e45_init_da8c8 1 (none) : Cond) ∈ UW := uw 157 (by decide +kernel) (by decide +kernel)
theorem u_ml_RJxa1e45_1 : (.methodLink RJxa1e45 1 objectInit : Cond) ∈ UW := uw 158 (by decide +kernel) (by decide +kernel)
theorem u_fl_RJx4a65c_39 : (.fieldLink RJx4a65c 39 "java/util/ArrayList" "DEFAULTCAPACITY_EMPTY_ELEMENTDATA" "[Ljava/lang/Object;" : Cond) ∈ UW := uw 159 (by decide +kernel) (by decide +kernel)
theorem u_fl_RJx4a65c_9 : (.fieldLink RJx4a65c 9 "java/util/ArrayList" "elementData" "[Ljava/lang/Object;" : Cond) ∈ UW := uw 161 (by decide +kernel) (by decide +kernel)
theorem u_fl_RJx4a65c_48 : (.fieldLink RJx4a65c 48 "java/util/ArrayList" "size" "I" : Cond) ∈ UW := uw 162 (by decide +kernel) (by decide +kernel)
theorem u_fl_RJxc12de_7 : (.fieldLink RJxc12de 7 "java/util/AbstractList" "modCount" "I" : Cond) ∈ UW := uw 163 (by decide +kernel) (by decide +kernel)
theorem u_fl_RJx4a65c_63 : (.fieldLink RJx4a65c 63 "java/util/ArrayList" "modCount" "I" : Cond) ∈ UW := uw 164 (by decide +kernel) (by decide +kernel)
theorem u_sf_165 : (.sameField "java/util/ArrayList" "java/util/AbstractList" "modCount" "I" : Cond) ∈ UW := uw 165 (by decide +kernel) (by decide +kernel)
theorem u_cl_RX4_18 : (.classLink RX4 18 "[[I" : Cond) ∈ UW := uw 173 (by decide +kernel) (by decide +kernel)
theorem u_fl_RX4_23 : (.fieldLink RX4 23 "Aislewright$Wave" "router" "LAislewright$Router;" : Cond) ∈ UW := uw 174 (by decide +kernel) (by decide +kernel)
theorem u_fl_RX4_12 : (.fieldLink RX4 12 "Aislewright$Wave" "batches" "Ljava/util/ArrayList;" : Cond) ∈ UW := uw 175 (by decide +kernel) (by decide +kernel)
theorem n_fn_RX5_246 : (.fieldLinkNest RX5 246 "Aislewright$Wave" "batches" "Ljava/util/ArrayList;" RX5 : Cond) ∈ UN := un 176 (by decide +kernel) (by decide +kernel)
theorem u_fl_RX4_20 : (.fieldLink RX4 20 "Aislewright$Wave" "savings" "[[I" : Cond) ∈ UW := uw 177 (by decide +kernel) (by decide +kernel)
theorem u_cl_RX5_40 : (.classLink RX5 40 RJx4a65c : Cond) ∈ UW := uw 185 (by decide +kernel) (by decide +kernel)
theorem u_ml_RX5_42 : (.methodLink RX5 42 yJx4a65c_init_da8c8 : Cond) ∈ UW := uw 186 (by decide +kernel) (by decide +kernel)
theorem u_fl_RX5_18 : (.fieldLink RX5 18 "Aislewright" "warehouse" "LAislewright$Warehouse;" : Cond) ∈ UW := uw 187 (by decide +kernel) (by decide +kernel)
theorem u_fl_RX5_27 : (.fieldLink RX5 27 "Aislewright" "router" "LAislewright$Router;" : Cond) ∈ UW := uw 188 (by decide +kernel) (by decide +kernel)
theorem u_fl_RX5_36 : (.fieldLink RX5 36 "Aislewright" "wave" "LAislewright$Wave;" : Cond) ∈ UW := uw 189 (by decide +kernel) (by decide +kernel)
theorem u_fl_RX5_43 : (.fieldLink RX5 43 "Aislewright" "book" "Ljava/util/ArrayList;" : Cond) ∈ UW := uw 190 (by decide +kernel) (by decide +kernel)
theorem u_fl_RX5_47 : (.fieldLink RX5 47 "Aislewright" "capacity" "I" : Cond) ∈ UW := uw 191 (by decide +kernel) (by decide +kernel)
theorem u_fl_RX5_193 : (.fieldLink RX5 193 "Aislewright" "walked" "I" : Cond) ∈ UW := uw 192 (by decide +kernel) (by decide +kernel)
theorem u_fl_RX5_227 : (.fieldLink RX5 227 "Aislewright" "walkedAlone" "I" : Cond) ∈ UW := uw 193 (by decide +kernel) (by decide +kernel)
theorem u_ml_RL_119 : (.methodLink RL 119 yX5_orders : Cond) ∈ UW := uw 209 (by decide +kernel) (by decide +kernel)
theorem u_im_yX5_orders : (.instanceMethod yX5_orders : Cond) ∈ UW := uw 210 (by decide +kernel) (by decide +kernel)
theorem u_se_yX5_orders : (.selects RX5 yX5_orders yX5_orders : Cond) ∈ UW := uw 211 (by decide +kernel) (by decide +kernel)
theorem u_co_yX5_orders : (.code yX5_orders cX5_orders 1 (some FieldType.int) : Cond) ∈ UW := uw 212 (by decide +kernel) (by decide +kernel)
theorem u_ml_RX5_106 : (.methodLink RX5 106 yJx4a65c_size_8abf5 : Cond) ∈ UW := uw 213 (by decide +kernel) (by decide +kernel)
theorem u_im_yJx4a65c_size_8abf5 : (.instanceMethod yJx4a65c_size_8abf5 : Cond) ∈ UW := uw 214 (by decide +kernel) (by decide +kernel)
theorem u_se_yJx4a65c_size_8abf5 : (.selects RJx4a65c yJx4a65c_size_8abf5 yJx4a65c_size_8abf5 : Cond) ∈ UW := uw 215 (by decide +kernel) (by decide +kernel)
theorem u_co_yJx4a65c_size_8abf5 : (.code yJx4a65c_size_8abf5 cJx4a65c_size_8abf5 1 (some FieldType.int) : Cond) ∈ UW := uw 216 (by decide +kernel) (by decide +kernel)
theorem u_ml_RL_138 : (.methodLink RL 138 yX5_batches : Cond) ∈ UW := uw 217 (by decide +kernel) (by decide +kernel)
theorem u_im_yX5_batches : (.instanceMethod yX5_batches : Cond) ∈ UW := uw 218 (by decide +kernel) (by decide +kernel)
theorem u_se_yX5_batches : (.selects RX5 yX5_batches yX5_batches : Cond) ∈ UW := uw 219 (by decide +kernel) (by decide +kernel)
theorem u_co_yX5_batches : (.code yX5_batches cX5_batches 1 (some FieldType.int) : Cond) ∈ UW := uw 220 (by decide +kernel) (by decide +kernel)
theorem u_ml_RX5_179 : (.methodLink RX5 179 yX4_size : Cond) ∈ UW := uw 221 (by decide +kernel) (by decide +kernel)
theorem u_im_yX4_size : (.instanceMethod yX4_size : Cond) ∈ UW := uw 222 (by decide +kernel) (by decide +kernel)
theorem u_se_yX4_size : (.selects RX4 yX4_size yX4_size : Cond) ∈ UW := uw 223 (by decide +kernel) (by decide +kernel)
theorem u_co_yX4_size : (.code yX4_size cX4_size 1 (some FieldType.int) : Cond) ∈ UW := uw 224 (by decide +kernel) (by decide +kernel)
theorem u_ml_RX4_31 : (.methodLink RX4 31 yJx4a65c_size_8abf5 : Cond) ∈ UW := uw 225 (by decide +kernel) (by decide +kernel)
theorem u_ml_RL_166 : (.methodLink RL 166 yX5_walked : Cond) ∈ UW := uw 226 (by decide +kernel) (by decide +kernel)
theorem u_im_yX5_walked : (.instanceMethod yX5_walked : Cond) ∈ UW := uw 227 (by decide +kernel) (by decide +kernel)
theorem u_se_yX5_walked : (.selects RX5 yX5_walked yX5_walked : Cond) ∈ UW := uw 228 (by decide +kernel) (by decide +kernel)
theorem u_co_yX5_walked : (.code yX5_walked cX5_walked 1 (some FieldType.int) : Cond) ∈ UW := uw 229 (by decide +kernel) (by decide +kernel)
theorem u_ml_RL_170 : (.methodLink RL 170 yX5_share : Cond) ∈ UW := uw 230 (by decide +kernel) (by decide +kernel)
theorem u_im_yX5_share : (.instanceMethod yX5_share : Cond) ∈ UW := uw 231 (by decide +kernel) (by decide +kernel)
theorem u_se_yX5_share : (.selects RX5 yX5_share yX5_share : Cond) ∈ UW := uw 232 (by decide +kernel) (by decide +kernel)
theorem u_co_yX5_share : (.code yX5_share cX5_share 1 (some FieldType.double) : Cond) ∈ UW := uw 233 (by decide +kernel) (by decide +kernel)
theorem u_ml_RL_79 : (.methodLink RL 79 yL_cell : Cond) ∈ UW := uw 234 (by decide +kernel) (by decide +kernel)
theorem u_st_yL_cell : (.static yL_cell : Cond) ∈ UW := uw 235 (by decide +kernel) (by decide +kernel)
theorem u_co_yL_cell : (.code yL_cell cL_cell 2 (some FieldType.int) : Cond) ∈ UW := uw 236 (by decide +kernel) (by decide +kernel)
theorem u_ml_RL_91 : (.methodLink RL 91 yL_put : Cond) ∈ UW := uw 237 (by decide +kernel) (by decide +kernel)
theorem u_st_yL_put : (.static yL_put : Cond) ∈ UW := uw 238 (by decide +kernel) (by decide +kernel)
theorem u_cl_RL_13 : (.classLink RL 13 "java/lang/IndexOutOfBoundsException" : Cond) ∈ UW := uw 240 (by decide +kernel) (by decide +kernel)
theorem u_cl_RL_15 : (.classLink RL 15 "java/lang/IllegalStateException" : Cond) ∈ UW := uw 241 (by decide +kernel) (by decide +kernel)
theorem u_ml_RL_7 : (.methodLink RL 7 yX5_put : Cond) ∈ UW := uw 242 (by decide +kernel) (by decide +kernel)
theorem u_im_yX5_put : (.instanceMethod yX5_put : Cond) ∈ UW := uw 243 (by decide +kernel) (by decide +kernel)
theorem u_se_yX5_put : (.selects RX5 yX5_put yX5_put : Cond) ∈ UW := uw 244 (by decide +kernel) (by decide +kernel)
theorem u_co_yX5_put : (.code yX5_put cX5_put 6 (some FieldType.int) : Cond) ∈ UW := uw 245 (by decide +kernel) (by decide +kernel)
theorem u_ml_RX5_51 : (.methodLink RX5 51 yX5_checkProduct : Cond) ∈ UW := uw 246 (by decide +kernel) (by decide +kernel)
theorem u_st_yX5_checkProduct : (.static yX5_checkProduct : Cond) ∈ UW := uw 247 (by decide +kernel) (by decide +kernel)
theorem u_co_yX5_checkProduct : (.code yX5_checkProduct cX5_checkProduct 1 (none) : Cond) ∈ UW := uw 248 (by decide +kernel) (by decide +kernel)
theorem u_cl_RX5_62 : (.classLink RX5 62 "java/lang/IndexOutOfBoundsException" : Cond) ∈ UW := uw 249 (by decide +kernel) (by decide +kernel)
theorem u_is_java_lang_IndexOutOfBoundsException : (.instantiable "java/lang/IndexOutOfBoundsException" 6 : Cond) ∈ UW := uw 250 (by decide +kernel) (by decide +kernel)
theorem n_ca_java_lang_IndexOutOfBoundsException_java_lang_IndexOutOfBoundsException : (.castable "java/lang/IndexOutOfBoundsException" "java/lang/IndexOutOfBoundsException" : Cond) ∈ UN := un 251 (by decide +kernel) (by decide +kernel)
theorem u_fl_java_lang_Throwable_198 : (.fieldLink "java/lang/Throwable" 198 "java/lang/Throwable" "backtrace" "Ljava/lang/Object;" : Cond) ∈ UW := uw 270 (by decide +kernel) (by decide +kernel)
theorem u_ml_java_lang_Throwable_1 : (.methodLink "java/lang/Throwable" 1 objectInit : Cond) ∈ UW := uw 274 (by decide +kernel) (by decide +kernel)
theorem u_fl_java_lang_Throwable_13 : (.fieldLink "java/lang/Throwable" 13 "java/lang/Throwable" "UNASSIGNED_STACK" "[Ljava/lang/StackTraceElement;" : Cond) ∈ UW := uw 275 (by decide +kernel) (by decide +kernel)
theorem u_fl_java_lang_Throwable_20 : (.fieldLink "java/lang/Throwable" 20 "java/lang/Throwable" "SUPPRESSED_SENTINEL" "Ljava/util/List;" : Cond) ∈ UW := uw 277 (by decide +kernel) (by decide +kernel)
theorem u_is_java_lang_Throwable : (.instantiable "java/lang/Throwable" 6 : Cond) ∈ UW := uw 288 (by decide +kernel) (by decide +kernel)
theorem u_ml_RX5_66 : (.methodLink RX5 66 ⟨"java/lang/IndexOutOfBoundsException", "<init>", "(Ljava/lang/String;)V"⟩ : Cond) ∈ UW := uw 291 (by decide +kernel) (by decide +kernel)
theorem u_ml_java_lang_IndexOutOfBoundsException_7 : (.methodLink "java/lang/IndexOutOfBoundsException" 7 ⟨"java/lang/RuntimeException", "<init>", "(Ljava/lang/String;)V"⟩ : Cond) ∈ UW := uw 294 (by decide +kernel) (by decide +kernel)
theorem u_ml_java_lang_RuntimeException_7 : (.methodLink "java/lang/RuntimeException" 7 ⟨"java/lang/Exception", "<init>", "(Ljava/lang/String;)V"⟩ : Cond) ∈ UW := uw 297 (by decide +kernel) (by decide +kernel)
theorem u_ml_java_lang_Exception_7 : (.methodLink "java/lang/Exception" 7 ⟨"java/lang/Throwable", "<init>", "(Ljava/lang/String;)V"⟩ : Cond) ∈ UW := uw 300 (by decide +kernel) (by decide +kernel)
theorem u_fl_java_lang_Throwable_198_303 : (.fieldLink "java/lang/Throwable" 198 "java/lang/Throwable" "backtrace" "Ljava/lang/Object;" : Cond) ∈ UW := uw 303 (by decide +kernel) (by decide +kernel)
theorem u_fl_java_lang_Throwable_31 : (.fieldLink "java/lang/Throwable" 31 "java/lang/Throwable" "detailMessage" "Ljava/lang/String;" : Cond) ∈ UW := uw 304 (by decide +kernel) (by decide +kernel)
theorem u_fl_java_lang_Throwable_7 : (.fieldLink "java/lang/Throwable" 7 "java/lang/Throwable" "cause" "Ljava/lang/Throwable;" : Cond) ∈ UW := uw 305 (by decide +kernel) (by decide +kernel)
theorem u_fl_java_lang_Throwable_17 : (.fieldLink "java/lang/Throwable" 17 "java/lang/Throwable" "stackTrace" "[Ljava/lang/StackTraceElement;" : Cond) ∈ UW := uw 306 (by decide +kernel) (by decide +kernel)
theorem u_fl_java_lang_Throwable_24 : (.fieldLink "java/lang/Throwable" 24 "java/lang/Throwable" "suppressedExceptions" "Ljava/util/List;" : Cond) ∈ UW := uw 307 (by decide +kernel) (by decide +kernel)
theorem u_ac_316 : (.arrayClass (FieldType.byte) : Cond) ∈ UW := uw 316 (by decide +kernel) (by decide +kernel)
theorem u_ml_RX5_55 : (.methodLink RX5 55 yX3_hasAisle : Cond) ∈ UW := uw 317 (by decide +kernel) (by decide +kernel)
theorem u_im_yX3_hasAisle : (.instanceMethod yX3_hasAisle : Cond) ∈ UW := uw 318 (by decide +kernel) (by decide +kernel)
theorem u_se_yX3_hasAisle : (.selects RX3 yX3_hasAisle yX3_hasAisle : Cond) ∈ UW := uw 319 (by decide +kernel) (by decide +kernel)
theorem u_co_yX3_hasAisle : (.code yX3_hasAisle cX3_hasAisle 2 (some FieldType.boolean) : Cond) ∈ UW := uw 320 (by decide +kernel) (by decide +kernel)
theorem u_ml_RX5_59 : (.methodLink RX5 59 yX3_hasPosition : Cond) ∈ UW := uw 321 (by decide +kernel) (by decide +kernel)
theorem u_im_yX3_hasPosition : (.instanceMethod yX3_hasPosition : Cond) ∈ UW := uw 322 (by decide +kernel) (by decide +kernel)
theorem u_se_yX3_hasPosition : (.selects RX3 yX3_hasPosition yX3_hasPosition : Cond) ∈ UW := uw 323 (by decide +kernel) (by decide +kernel)
theorem u_co_yX3_hasPosition : (.code yX3_hasPosition cX3_hasPosition 2 (some FieldType.boolean) : Cond) ∈ UW := uw 324 (by decide +kernel) (by decide +kernel)
theorem u_ml_RX5_69 : (.methodLink RX5 69 yX3_productAt : Cond) ∈ UW := uw 326 (by decide +kernel) (by decide +kernel)
theorem u_im_yX3_productAt : (.instanceMethod yX3_productAt : Cond) ∈ UW := uw 327 (by decide +kernel) (by decide +kernel)
theorem u_se_yX3_productAt : (.selects RX3 yX3_productAt yX3_productAt : Cond) ∈ UW := uw 328 (by decide +kernel) (by decide +kernel)
theorem u_co_yX3_productAt : (.code yX3_productAt cX3_productAt 3 (some FieldType.int) : Cond) ∈ UW := uw 329 (by decide +kernel) (by decide +kernel)
theorem u_ml_RX5_73 : (.methodLink RX5 73 yX4_isOn : Cond) ∈ UW := uw 330 (by decide +kernel) (by decide +kernel)
theorem u_im_yX4_isOn : (.instanceMethod yX4_isOn : Cond) ∈ UW := uw 331 (by decide +kernel) (by decide +kernel)
theorem u_se_yX4_isOn : (.selects RX4 yX4_isOn yX4_isOn : Cond) ∈ UW := uw 332 (by decide +kernel) (by decide +kernel)
theorem u_co_yX4_isOn : (.code yX4_isOn cX4_isOn 1 (some FieldType.boolean) : Cond) ∈ UW := uw 333 (by decide +kernel) (by decide +kernel)
theorem u_ml_RX4_27 : (.methodLink RX4 27 yJx4a65c_isEmpty_aae02 : Cond) ∈ UW := uw 334 (by decide +kernel) (by decide +kernel)
theorem u_im_yJx4a65c_isEmpty_aae02 : (.instanceMethod yJx4a65c_isEmpty_aae02 : Cond) ∈ UW := uw 335 (by decide +kernel) (by decide +kernel)
theorem u_se_yJx4a65c_isEmpty_aae02 : (.selects RJx4a65c yJx4a65c_isEmpty_aae02 yJx4a65c_isEmpty_aae02 : Cond) ∈ UW := uw 336 (by decide +kernel) (by decide +kernel)
theorem u_co_yJx4a65c_isEmpty_aae02 : (.code yJx4a65c_isEmpty_aae02 cJx4a65c_isEmpty_aae02 1 (some FieldType.boolean) : Cond) ∈ UW := uw 337 (by decide +kernel) (by decide +kernel)
theorem u_cl_RX5_77 : (.classLink RX5 77 "java/lang/IllegalStateException" : Cond) ∈ UW := uw 338 (by decide +kernel) (by decide +kernel)
theorem u_is_java_lang_IllegalStateException : (.instantiable "java/lang/IllegalStateException" 6 : Cond) ∈ UW := uw 339 (by decide +kernel) (by decide +kernel)
theorem n_ca_java_lang_IllegalStateException_java_lang_IllegalStateException : (.castable "java/lang/IllegalStateException" "java/lang/IllegalStateException" : Cond) ∈ UN := un 340 (by decide +kernel) (by decide +kernel)
theorem u_ml_RX5_81 : (.methodLink RX5 81 ⟨"java/lang/IllegalStateException", "<init>", "(Ljava/lang/String;)V"⟩ : Cond) ∈ UW := uw 348 (by decide +kernel) (by decide +kernel)
theorem u_ml_java_lang_IllegalStateException_7 : (.methodLink "java/lang/IllegalStateException" 7 ⟨"java/lang/RuntimeException", "<init>", "(Ljava/lang/String;)V"⟩ : Cond) ∈ UW := uw 351 (by decide +kernel) (by decide +kernel)
theorem u_ml_RX5_82 : (.methodLink RX5 82 yX3_move : Cond) ∈ UW := uw 354 (by decide +kernel) (by decide +kernel)
theorem u_im_yX3_move : (.instanceMethod yX3_move : Cond) ∈ UW := uw 355 (by decide +kernel) (by decide +kernel)
theorem u_se_yX3_move : (.selects RX3 yX3_move yX3_move : Cond) ∈ UW := uw 356 (by decide +kernel) (by decide +kernel)
theorem u_co_yX3_move : (.code yX3_move cX3_move 4 (some FieldType.int) : Cond) ∈ UW := uw 357 (by decide +kernel) (by decide +kernel)
theorem u_ml_RL_98 : (.methodLink RL 98 yL_layOut : Cond) ∈ UW := uw 358 (by decide +kernel) (by decide +kernel)
theorem u_st_yL_layOut : (.static yL_layOut : Cond) ∈ UW := uw 359 (by decide +kernel) (by decide +kernel)
theorem u_ml_RL_17 : (.methodLink RL 17 yX5_layOut : Cond) ∈ UW := uw 361 (by decide +kernel) (by decide +kernel)
theorem u_im_yX5_layOut : (.instanceMethod yX5_layOut : Cond) ∈ UW := uw 362 (by decide +kernel) (by decide +kernel)
theorem u_se_yX5_layOut : (.selects RX5 yX5_layOut yX5_layOut : Cond) ∈ UW := uw 363 (by decide +kernel) (by decide +kernel)
theorem u_co_yX5_layOut : (.code yX5_layOut cX5_layOut 1 (some FieldType.int) : Cond) ∈ UW := uw 364 (by decide +kernel) (by decide +kernel)
theorem u_ml_RX5_87 : (.methodLink RX5 87 yX3_rearrange : Cond) ∈ UW := uw 366 (by decide +kernel) (by decide +kernel)
theorem u_im_yX3_rearrange : (.instanceMethod yX3_rearrange : Cond) ∈ UW := uw 367 (by decide +kernel) (by decide +kernel)
theorem u_se_yX3_rearrange : (.selects RX3 yX3_rearrange yX3_rearrange : Cond) ∈ UW := uw 368 (by decide +kernel) (by decide +kernel)
theorem u_co_yX3_rearrange : (.code yX3_rearrange cX3_rearrange 4 (some FieldType.int) : Cond) ∈ UW := uw 369 (by decide +kernel) (by decide +kernel)
theorem u_ml_RX3_53 : (.methodLink RX3 53 yX3_insertPlace : Cond) ∈ UW := uw 370 (by decide +kernel) (by decide +kernel)
theorem u_im_yX3_insertPlace : (.instanceMethod yX3_insertPlace : Cond) ∈ UW := uw 372 (by decide +kernel) (by decide +kernel)
theorem u_co_yX3_insertPlace : (.code yX3_insertPlace cX3_insertPlace 4 (none) : Cond) ∈ UW := uw 373 (by decide +kernel) (by decide +kernel)
theorem u_ml_RX3_63 : (.methodLink RX3 63 yX3_isNearer : Cond) ∈ UW := uw 374 (by decide +kernel) (by decide +kernel)
theorem u_im_yX3_isNearer : (.instanceMethod yX3_isNearer : Cond) ∈ UW := uw 376 (by decide +kernel) (by decide +kernel)
theorem u_co_yX3_isNearer : (.code yX3_isNearer cX3_isNearer 5 (some FieldType.boolean) : Cond) ∈ UW := uw 377 (by decide +kernel) (by decide +kernel)
theorem u_ml_RX3_67 : (.methodLink RX3 67 yX3_between : Cond) ∈ UW := uw 378 (by decide +kernel) (by decide +kernel)
theorem u_im_yX3_between : (.instanceMethod yX3_between : Cond) ∈ UW := uw 379 (by decide +kernel) (by decide +kernel)
theorem u_se_yX3_between : (.selects RX3 yX3_between yX3_between : Cond) ∈ UW := uw 380 (by decide +kernel) (by decide +kernel)
theorem u_co_yX3_between : (.code yX3_between cX3_between 8 (some FieldType.int) : Cond) ∈ UW := uw 381 (by decide +kernel) (by decide +kernel)
theorem u_ml_RX3_34 : (.methodLink RX3 34 yJ9_abs_0f7a4 : Cond) ∈ UW := uw 382 (by decide +kernel) (by decide +kernel)
theorem u_st_yJ9_abs_0f7a4 : (.static yJ9_abs_0f7a4 : Cond) ∈ UW := uw 383 (by decide +kernel) (by decide +kernel)
theorem u_co_yJ9_abs_0f7a4 : (.code yJ9_abs_0f7a4 cJ9_abs_0f7a4 1 (some FieldType.int) : Cond) ∈ UW := uw 384 (by decide +kernel) (by decide +kernel)
theorem u_ml_RX3_40 : (.methodLink RX3 40 yX3_depth : Cond) ∈ UW := uw 385 (by decide +kernel) (by decide +kernel)
theorem u_im_yX3_depth : (.instanceMethod yX3_depth : Cond) ∈ UW := uw 386 (by decide +kernel) (by decide +kernel)
theorem u_se_yX3_depth : (.selects RX3 yX3_depth yX3_depth : Cond) ∈ UW := uw 387 (by decide +kernel) (by decide +kernel)
theorem u_co_yX3_depth : (.code yX3_depth cX3_depth 1 (some FieldType.int) : Cond) ∈ UW := uw 388 (by decide +kernel) (by decide +kernel)
theorem u_ml_RX3_44 : (.methodLink RX3 44 yJ9_min_7cf53 : Cond) ∈ UW := uw 389 (by decide +kernel) (by decide +kernel)
theorem u_ml_RX3_57 : (.methodLink RX3 57 yX3_insertProduct : Cond) ∈ UW := uw 390 (by decide +kernel) (by decide +kernel)
theorem u_im_yX3_insertProduct : (.instanceMethod yX3_insertProduct : Cond) ∈ UW := uw 392 (by decide +kernel) (by decide +kernel)
theorem u_co_yX3_insertProduct : (.code yX3_insertProduct cX3_insertProduct 4 (none) : Cond) ∈ UW := uw 393 (by decide +kernel) (by decide +kernel)
theorem u_ml_RX3_60 : (.methodLink RX3 60 yX3_move : Cond) ∈ UW := uw 394 (by decide +kernel) (by decide +kernel)
theorem u_ml_RL_102 : (.methodLink RL 102 yL_placeOf : Cond) ∈ UW := uw 395 (by decide +kernel) (by decide +kernel)
theorem u_st_yL_placeOf : (.static yL_placeOf : Cond) ∈ UW := uw 396 (by decide +kernel) (by decide +kernel)
theorem u_ml_RL_21 : (.methodLink RL 21 yX5_placeOf : Cond) ∈ UW := uw 398 (by decide +kernel) (by decide +kernel)
theorem u_im_yX5_placeOf : (.instanceMethod yX5_placeOf : Cond) ∈ UW := uw 399 (by decide +kernel) (by decide +kernel)
theorem u_se_yX5_placeOf : (.selects RX5 yX5_placeOf yX5_placeOf : Cond) ∈ UW := uw 400 (by decide +kernel) (by decide +kernel)
theorem u_co_yX5_placeOf : (.code yX5_placeOf cX5_placeOf 2 (some FieldType.int) : Cond) ∈ UW := uw 401 (by decide +kernel) (by decide +kernel)
theorem u_ml_RL_106 : (.methodLink RL 106 yL_turnover : Cond) ∈ UW := uw 402 (by decide +kernel) (by decide +kernel)
theorem u_st_yL_turnover : (.static yL_turnover : Cond) ∈ UW := uw 403 (by decide +kernel) (by decide +kernel)
theorem u_ml_RL_25 : (.methodLink RL 25 yX5_turnover : Cond) ∈ UW := uw 405 (by decide +kernel) (by decide +kernel)
theorem u_im_yX5_turnover : (.instanceMethod yX5_turnover : Cond) ∈ UW := uw 406 (by decide +kernel) (by decide +kernel)
theorem u_se_yX5_turnover : (.selects RX5 yX5_turnover yX5_turnover : Cond) ∈ UW := uw 407 (by decide +kernel) (by decide +kernel)
theorem u_co_yX5_turnover : (.code yX5_turnover cX5_turnover 2 (some FieldType.int) : Cond) ∈ UW := uw 408 (by decide +kernel) (by decide +kernel)
theorem u_ml_RL_109 : (.methodLink RL 109 yL_distance : Cond) ∈ UW := uw 409 (by decide +kernel) (by decide +kernel)
theorem u_st_yL_distance : (.static yL_distance : Cond) ∈ UW := uw 410 (by decide +kernel) (by decide +kernel)
theorem u_ml_RL_28 : (.methodLink RL 28 yX5_distance : Cond) ∈ UW := uw 412 (by decide +kernel) (by decide +kernel)
theorem u_im_yX5_distance : (.instanceMethod yX5_distance : Cond) ∈ UW := uw 413 (by decide +kernel) (by decide +kernel)
theorem u_se_yX5_distance : (.selects RX5 yX5_distance yX5_distance : Cond) ∈ UW := uw 414 (by decide +kernel) (by decide +kernel)
theorem u_co_yX5_distance : (.code yX5_distance cX5_distance 5 (some FieldType.int) : Cond) ∈ UW := uw 415 (by decide +kernel) (by decide +kernel)
theorem u_ml_RX5_100 : (.methodLink RX5 100 yX3_between : Cond) ∈ UW := uw 417 (by decide +kernel) (by decide +kernel)
theorem u_ml_RL_113 : (.methodLink RL 113 yL_order : Cond) ∈ UW := uw 418 (by decide +kernel) (by decide +kernel)
theorem u_st_yL_order : (.static yL_order : Cond) ∈ UW := uw 419 (by decide +kernel) (by decide +kernel)
theorem u_cl_RL_35 : (.classLink RL 35 "java/lang/IllegalArgumentException" : Cond) ∈ UW := uw 421 (by decide +kernel) (by decide +kernel)
theorem u_ml_RL_32 : (.methodLink RL 32 yX5_order : Cond) ∈ UW := uw 422 (by decide +kernel) (by decide +kernel)
theorem u_im_yX5_order : (.instanceMethod yX5_order : Cond) ∈ UW := uw 423 (by decide +kernel) (by decide +kernel)
theorem u_se_yX5_order : (.selects RX5 yX5_order yX5_order : Cond) ∈ UW := uw 424 (by decide +kernel) (by decide +kernel)
theorem u_co_yX5_order : (.code yX5_order cX5_order 2 (some FieldType.int) : Cond) ∈ UW := uw 425 (by decide +kernel) (by decide +kernel)
theorem u_ml_RX5_103 : (.methodLink RX5 103 yX5_checkTime : Cond) ∈ UW := uw 426 (by decide +kernel) (by decide +kernel)
theorem u_st_yX5_checkTime : (.static yX5_checkTime : Cond) ∈ UW := uw 427 (by decide +kernel) (by decide +kernel)
theorem u_co_yX5_checkTime : (.code yX5_checkTime cX5_checkTime 1 (none) : Cond) ∈ UW := uw 428 (by decide +kernel) (by decide +kernel)
theorem u_cl_RX5_123 : (.classLink RX5 123 "java/lang/IllegalArgumentException" : Cond) ∈ UW := uw 429 (by decide +kernel) (by decide +kernel)
theorem u_is_java_lang_IllegalArgumentException : (.instantiable "java/lang/IllegalArgumentException" 6 : Cond) ∈ UW := uw 430 (by decide +kernel) (by decide +kernel)
theorem n_ca_java_lang_IllegalArgumentException_java_lang_IllegalArgumentException : (.castable "java/lang/IllegalArgumentException" "java/lang/IllegalArgumentException" : Cond) ∈ UN := un 431 (by decide +kernel) (by decide +kernel)
theorem u_ml_RX5_127 : (.methodLink RX5 127 ⟨"java/lang/IllegalArgumentException", "<init>", "(Ljava/lang/String;)V"⟩ : Cond) ∈ UW := uw 439 (by decide +kernel) (by decide +kernel)
theorem u_ml_java_lang_IllegalArgumentException_7 : (.methodLink "java/lang/IllegalArgumentException" 7 ⟨"java/lang/RuntimeException", "<init>", "(Ljava/lang/String;)V"⟩ : Cond) ∈ UW := uw 442 (by decide +kernel) (by decide +kernel)
theorem u_cl_RX5_111 : (.classLink RX5 111 RX1 : Cond) ∈ UW := uw 446 (by decide +kernel) (by decide +kernel)
theorem u_is_RX1 : (.instantiable RX1 4 : Cond) ∈ UW := uw 447 (by decide +kernel) (by decide +kernel)
theorem u_ml_RX5_113 : (.methodLink RX5 113 yX1_init : Cond) ∈ UW := uw 448 (by decide +kernel) (by decide +kernel)
theorem u_im_yX1_init : (.instanceMethod yX1_init : Cond) ∈ UW := uw 449 (by decide +kernel) (by decide +kernel)
theorem u_co_yX1_init : (.code yX1_init cX1_init 2 (none) : Cond) ∈ UW := uw 450 (by decide +kernel) (by decide +kernel)
theorem u_ml_RX1_3 : (.methodLink RX1 3 objectInit : Cond) ∈ UW := uw 451 (by decide +kernel) (by decide +kernel)
theorem u_fl_RX1_19 : (.fieldLink RX1 19 "Aislewright$Order" "due" "I" : Cond) ∈ UW := uw 452 (by decide +kernel) (by decide +kernel)
theorem u_fl_RX1_9 : (.fieldLink RX1 9 "Aislewright$Order" "quantities" "[I" : Cond) ∈ UW := uw 453 (by decide +kernel) (by decide +kernel)
theorem n_fn_RX3_48 : (.fieldLinkNest RX3 48 "Aislewright$Order" "quantities" "[I" RX5 : Cond) ∈ UN := un 454 (by decide +kernel) (by decide +kernel)
theorem n_fn_RX0_23 : (.fieldLinkNest RX0 23 "Aislewright$Order" "products" "I" RX5 : Cond) ∈ UN := un 455 (by decide +kernel) (by decide +kernel)
theorem u_fl_RX1_22 : (.fieldLink RX1 22 "Aislewright$Order" "products" "I" : Cond) ∈ UW := uw 456 (by decide +kernel) (by decide +kernel)
theorem n_fn_RX4_37 : (.fieldLinkNest RX4 37 "Aislewright$Order" "products" "I" RX5 : Cond) ∈ UN := un 457 (by decide +kernel) (by decide +kernel)
theorem n_fn_RX5_147 : (.fieldLinkNest RX5 147 "Aislewright$Order" "products" "I" RX5 : Cond) ∈ UN := un 458 (by decide +kernel) (by decide +kernel)
theorem u_fl_RX1_15 : (.fieldLink RX1 15 "Aislewright$Order" "state" "I" : Cond) ∈ UW := uw 459 (by decide +kernel) (by decide +kernel)
theorem n_fn_RX5_144 : (.fieldLinkNest RX5 144 "Aislewright$Order" "state" "I" RX5 : Cond) ∈ UN := un 460 (by decide +kernel) (by decide +kernel)
theorem u_ml_RX5_115 : (.methodLink RX5 115 yJx4a65c_add_9ea2d : Cond) ∈ UW := uw 470 (by decide +kernel) (by decide +kernel)
theorem u_im_yJx4a65c_add_9ea2d : (.instanceMethod yJx4a65c_add_9ea2d : Cond) ∈ UW := uw 471 (by decide +kernel) (by decide +kernel)
theorem u_se_yJx4a65c_add_9ea2d : (.selects RJx4a65c yJx4a65c_add_9ea2d yJx4a65c_add_9ea2d : Cond) ∈ UW := uw 472 (by decide +kernel) (by decide +kernel)
theorem u_co_yJx4a65c_add_9ea2d : (.code yJx4a65c_add_9ea2d cJx4a65c_add_9ea2d 2 (some FieldType.boolean) : Cond) ∈ UW := uw 473 (by decide +kernel) (by decide +kernel)
theorem u_ml_RJx4a65c_131 : (.methodLink RJx4a65c 131 yJx4a65c_add_72be8 : Cond) ∈ UW := uw 474 (by decide +kernel) (by decide +kernel)
theorem u_im_yJx4a65c_add_72be8 : (.instanceMethod yJx4a65c_add_72be8 : Cond) ∈ UW := uw 476 (by decide +kernel) (by decide +kernel)
theorem u_co_yJx4a65c_add_72be8 : (.code yJx4a65c_add_72be8 cJx4a65c_add_72be8 4 (none) : Cond) ∈ UW := uw 477 (by decide +kernel) (by decide +kernel)
theorem u_ml_RJx4a65c_129 : (.methodLink RJx4a65c 129 yJx4a65c_grow_d5877 : Cond) ∈ UW := uw 478 (by decide +kernel) (by decide +kernel)
theorem u_im_yJx4a65c_grow_d5877 : (.instanceMethod yJx4a65c_grow_d5877 : Cond) ∈ UW := uw 480 (by decide +kernel) (by decide +kernel)
theorem u_co_yJx4a65c_grow_d5877 : (.code yJx4a65c_grow_d5877 cJx4a65c_grow_d5877 1 (some (FieldType.array (FieldType.object "java/lang/Object"))) : Cond) ∈ UW := uw 481 (by decide +kernel) (by decide +kernel)
theorem u_ml_RJx4a65c_69 : (.methodLink RJx4a65c 69 yJx4a65c_grow_92f84 : Cond) ∈ UW := uw 482 (by decide +kernel) (by decide +kernel)
theorem u_im_yJx4a65c_grow_92f84 : (.instanceMethod yJx4a65c_grow_92f84 : Cond) ∈ UW := uw 484 (by decide +kernel) (by decide +kernel)
theorem u_co_yJx4a65c_grow_92f84 : (.code yJx4a65c_grow_92f84 cJx4a65c_grow_92f84 4 (some (FieldType.array (FieldType.object "java/lang/Object"))) : Cond) ∈ UW := uw 485 (by decide +kernel) (by decide +kernel)
theorem u_ml_RJx4a65c_73 : (.methodLink RJx4a65c 73 yJ8_newLength_cabcc : Cond) ∈ UW := uw 486 (by decide +kernel) (by decide +kernel)
theorem u_st_yJ8_newLength_cabcc : (.static yJ8_newLength_cabcc : Cond) ∈ UW := uw 487 (by decide +kernel) (by decide +kernel)
theorem u_co_yJ8_newLength_cabcc : (.code yJ8_newLength_cabcc cJ8_newLength_cabcc 4 (some FieldType.int) : Cond) ∈ UW := uw 488 (by decide +kernel) (by decide +kernel)
theorem u_ml_RJ8_194 : (.methodLink RJ8 194 yJ9_max_7cf53 : Cond) ∈ UW := uw 489 (by decide +kernel) (by decide +kernel)
theorem u_ct_RJ8_200 : (.constant RJ8 200 (2147483639 : Int32) : Cond) ∈ UW := uw 490 (by decide +kernel) (by decide +kernel)
theorem u_ml_RJ8_201 : (.methodLink RJ8 201 yJ8_hugeLength_7cf53 : Cond) ∈ UW := uw 491 (by decide +kernel) (by decide +kernel)
theorem u_st_yJ8_hugeLength_7cf53 : (.static yJ8_hugeLength_7cf53 : Cond) ∈ UW := uw 492 (by decide +kernel) (by decide +kernel)
theorem u_co_yJ8_hugeLength_7cf53 : (.code yJ8_hugeLength_7cf53 cJ8_hugeLength_7cf53 3 (some FieldType.int) : Cond) ∈ UW := uw 493 (by decide +kernel) (by decide +kernel)
theorem u_ml_RJx4a65c_66 : (.methodLink RJx4a65c 66 yJ7_copyOf_1904c : Cond) ∈ UW := uw 494 (by decide +kernel) (by decide +kernel)
theorem u_st_yJ7_copyOf_1904c : (.static yJ7_copyOf_1904c : Cond) ∈ UW := uw 495 (by decide +kernel) (by decide +kernel)
theorem u_co_yJ7_copyOf_1904c : (.code yJ7_copyOf_1904c cJ7_copyOf_1904c 2 (some (FieldType.array (FieldType.object "java/lang/Object"))) : Cond) ∈ UW := uw 496 (by decide +kernel) (by decide +kernel)
theorem u_ml_RJ7_300 : (.methodLink RJ7 300 yJ7_copyOf_6403c : Cond) ∈ UW := uw 512 (by decide +kernel) (by decide +kernel)
theorem u_st_yJ7_copyOf_6403c : (.static yJ7_copyOf_6403c : Cond) ∈ UW := uw 513 (by decide +kernel) (by decide +kernel)
theorem u_co_yJ7_copyOf_6403c : (.code yJ7_copyOf_6403c cJ7_copyOf_6403c 4 (some (FieldType.array (FieldType.object "java/lang/Object"))) : Cond) ∈ UW := uw 514 (by decide +kernel) (by decide +kernel)
theorem u_cl_RJ7_110 : (.classLink RJ7 110 "[Ljava/lang/Object;" : Cond) ∈ UW := uw 515 (by decide +kernel) (by decide +kernel)
theorem u_cl_RJ7_2 : (.classLink RJ7 2 "java/lang/Object" : Cond) ∈ UW := uw 517 (by decide +kernel) (by decide +kernel)
theorem u_ml_RJ7_304 : (.methodLink RJ7 304 yJ9_min_7cf53 : Cond) ∈ UW := uw 518 (by decide +kernel) (by decide +kernel)
theorem u_ml_RJx4a65c_79 : (.methodLink RJx4a65c 79 yJ9_max_7cf53 : Cond) ∈ UW := uw 522 (by decide +kernel) (by decide +kernel)
theorem u_cl_RJx4a65c_7 : (.classLink RJx4a65c 7 "java/lang/Object" : Cond) ∈ UW := uw 523 (by decide +kernel) (by decide +kernel)
theorem u_ml_RL_116 : (.methodLink RL 116 yL_line : Cond) ∈ UW := uw 524 (by decide +kernel) (by decide +kernel)
theorem u_st_yL_line : (.static yL_line : Cond) ∈ UW := uw 525 (by decide +kernel) (by decide +kernel)
theorem u_ml_RL_37 : (.methodLink RL 37 yX5_line : Cond) ∈ UW := uw 527 (by decide +kernel) (by decide +kernel)
theorem u_im_yX5_line : (.instanceMethod yX5_line : Cond) ∈ UW := uw 528 (by decide +kernel) (by decide +kernel)
theorem u_se_yX5_line : (.selects RX5 yX5_line yX5_line : Cond) ∈ UW := uw 529 (by decide +kernel) (by decide +kernel)
theorem u_co_yX5_line : (.code yX5_line cX5_line 5 (some FieldType.int) : Cond) ∈ UW := uw 530 (by decide +kernel) (by decide +kernel)
theorem u_ml_RX5_119 : (.methodLink RX5 119 yX5_orderNumbered : Cond) ∈ UW := uw 531 (by decide +kernel) (by decide +kernel)
theorem u_im_yX5_orderNumbered : (.instanceMethod yX5_orderNumbered : Cond) ∈ UW := uw 533 (by decide +kernel) (by decide +kernel)
theorem u_co_yX5_orderNumbered : (.code yX5_orderNumbered cX5_orderNumbered 2 (some (FieldType.object "Aislewright$Order")) : Cond) ∈ UW := uw 534 (by decide +kernel) (by decide +kernel)
theorem u_ml_RX5_165 : (.methodLink RX5 165 yJx4a65c_get_915e3 : Cond) ∈ UW := uw 536 (by decide +kernel) (by decide +kernel)
theorem u_im_yJx4a65c_get_915e3 : (.instanceMethod yJx4a65c_get_915e3 : Cond) ∈ UW := uw 537 (by decide +kernel) (by decide +kernel)
theorem u_se_yJx4a65c_get_915e3 : (.selects RJx4a65c yJx4a65c_get_915e3 yJx4a65c_get_915e3 : Cond) ∈ UW := uw 538 (by decide +kernel) (by decide +kernel)
theorem u_co_yJx4a65c_get_915e3 : (.code yJx4a65c_get_915e3 cJx4a65c_get_915e3 2 (some (FieldType.object "java/lang/Object")) : Cond) ∈ UW := uw 539 (by decide +kernel) (by decide +kernel)
theorem u_ml_RJx4a65c_118 : (.methodLink RJx4a65c 118 yJ15_checkIndex_7cf53 : Cond) ∈ UW := uw 540 (by decide +kernel) (by decide +kernel)
theorem u_st_yJ15_checkIndex_7cf53 : (.static yJ15_checkIndex_7cf53 : Cond) ∈ UW := uw 541 (by decide +kernel) (by decide +kernel)
theorem u_co_yJ15_checkIndex_7cf53 : (.code yJ15_checkIndex_7cf53 cJ15_checkIndex_7cf53 2 (some FieldType.int) : Cond) ∈ UW := uw 542 (by decide +kernel) (by decide +kernel)
theorem u_ml_RJ15_105 : (.methodLink RJ15 105 yJ3_checkIndex_8e157 : Cond) ∈ UW := uw 543 (by decide +kernel) (by decide +kernel)
theorem u_st_yJ3_checkIndex_8e157 : (.static yJ3_checkIndex_8e157 : Cond) ∈ UW := uw 544 (by decide +kernel) (by decide +kernel)
theorem u_co_yJ3_checkIndex_8e157 : (.code yJ3_checkIndex_8e157 cJ3_checkIndex_8e157 3 (some FieldType.int) : Cond) ∈ UW := uw 545 (by decide +kernel) (by decide +kernel)
theorem u_ml_RJx4a65c_123 : (.methodLink RJx4a65c 123 yJx4a65c_elementData_915e3 : Cond) ∈ UW := uw 546 (by decide +kernel) (by decide +kernel)
theorem u_im_yJx4a65c_elementData_915e3 : (.instanceMethod yJx4a65c_elementData_915e3 : Cond) ∈ UW := uw 547 (by decide +kernel) (by decide +kernel)
theorem u_se_yJx4a65c_elementData_915e3 : (.selects RJx4a65c yJx4a65c_elementData_915e3 yJx4a65c_elementData_915e3 : Cond) ∈ UW := uw 548 (by decide +kernel) (by decide +kernel)
theorem u_co_yJx4a65c_elementData_915e3 : (.code yJx4a65c_elementData_915e3 cJx4a65c_elementData_915e3 2 (some (FieldType.object "java/lang/Object")) : Cond) ∈ UW := uw 549 (by decide +kernel) (by decide +kernel)
theorem u_ml_RX5_128 : (.methodLink RX5 128 yX5_takesLine : Cond) ∈ UW := uw 551 (by decide +kernel) (by decide +kernel)
theorem u_im_yX5_takesLine : (.instanceMethod yX5_takesLine : Cond) ∈ UW := uw 553 (by decide +kernel) (by decide +kernel)
theorem u_co_yX5_takesLine : (.code yX5_takesLine cX5_takesLine 3 (some FieldType.boolean) : Cond) ∈ UW := uw 554 (by decide +kernel) (by decide +kernel)
theorem u_ml_RX5_141 : (.methodLink RX5 141 yX1_countLines : Cond) ∈ UW := uw 555 (by decide +kernel) (by decide +kernel)
theorem u_im_yX1_countLines : (.instanceMethod yX1_countLines : Cond) ∈ UW := uw 556 (by decide +kernel) (by decide +kernel)
theorem u_se_yX1_countLines : (.selects RX1 yX1_countLines yX1_countLines : Cond) ∈ UW := uw 557 (by decide +kernel) (by decide +kernel)
theorem u_co_yX1_countLines : (.code yX1_countLines cX1_countLines 1 (some FieldType.int) : Cond) ∈ UW := uw 558 (by decide +kernel) (by decide +kernel)
theorem u_ml_RX1_29 : (.methodLink RX1 29 yJ6_bitCount_0f7a4 : Cond) ∈ UW := uw 559 (by decide +kernel) (by decide +kernel)
theorem u_st_yJ6_bitCount_0f7a4 : (.static yJ6_bitCount_0f7a4 : Cond) ∈ UW := uw 560 (by decide +kernel) (by decide +kernel)
theorem u_co_yJ6_bitCount_0f7a4 : (.code yJ6_bitCount_0f7a4 cJ6_bitCount_0f7a4 1 (some FieldType.int) : Cond) ∈ UW := uw 561 (by decide +kernel) (by decide +kernel)
theorem u_ct_RJ6_265 : (.constant RJ6 265 (1431655765 : Int32) : Cond) ∈ UW := uw 562 (by decide +kernel) (by decide +kernel)
theorem u_ct_RJ6_266 : (.constant RJ6 266 (858993459 : Int32) : Cond) ∈ UW := uw 563 (by decide +kernel) (by decide +kernel)
theorem u_ct_RJ6_267 : (.constant RJ6 267 (252645135 : Int32) : Cond) ∈ UW := uw 564 (by decide +kernel) (by decide +kernel)
theorem u_ml_RX5_132 : (.methodLink RX5 132 yX1_asksFor : Cond) ∈ UW := uw 565 (by decide +kernel) (by decide +kernel)
theorem u_im_yX1_asksFor : (.instanceMethod yX1_asksFor : Cond) ∈ UW := uw 566 (by decide +kernel) (by decide +kernel)
theorem u_se_yX1_asksFor : (.selects RX1 yX1_asksFor yX1_asksFor : Cond) ∈ UW := uw 567 (by decide +kernel) (by decide +kernel)
theorem u_co_yX1_asksFor : (.code yX1_asksFor cX1_asksFor 2 (some FieldType.boolean) : Cond) ∈ UW := uw 568 (by decide +kernel) (by decide +kernel)
theorem n_mn_RX1_25 : (.methodLinkNest RX1 25 yX5_isIn RX5 : Cond) ∈ UN := un 569 (by decide +kernel) (by decide +kernel)
theorem u_st_yX5_isIn : (.static yX5_isIn : Cond) ∈ UW := uw 570 (by decide +kernel) (by decide +kernel)
theorem u_co_yX5_isIn : (.code yX5_isIn cX5_isIn 2 (some FieldType.boolean) : Cond) ∈ UW := uw 571 (by decide +kernel) (by decide +kernel)
theorem u_ml_RX5_137 : (.methodLink RX5 137 yX1_addLine : Cond) ∈ UW := uw 573 (by decide +kernel) (by decide +kernel)
theorem u_im_yX1_addLine : (.instanceMethod yX1_addLine : Cond) ∈ UW := uw 574 (by decide +kernel) (by decide +kernel)
theorem u_se_yX1_addLine : (.selects RX1 yX1_addLine yX1_addLine : Cond) ∈ UW := uw 575 (by decide +kernel) (by decide +kernel)
theorem u_co_yX1_addLine : (.code yX1_addLine cX1_addLine 3 (none) : Cond) ∈ UW := uw 576 (by decide +kernel) (by decide +kernel)
theorem u_ml_RL_123 : (.methodLink RL 123 yL_stateOf : Cond) ∈ UW := uw 577 (by decide +kernel) (by decide +kernel)
theorem u_st_yL_stateOf : (.static yL_stateOf : Cond) ∈ UW := uw 578 (by decide +kernel) (by decide +kernel)
theorem u_ml_RL_40 : (.methodLink RL 40 yX5_stateOf : Cond) ∈ UW := uw 580 (by decide +kernel) (by decide +kernel)
theorem u_im_yX5_stateOf : (.instanceMethod yX5_stateOf : Cond) ∈ UW := uw 581 (by decide +kernel) (by decide +kernel)
theorem u_se_yX5_stateOf : (.selects RX5 yX5_stateOf yX5_stateOf : Cond) ∈ UW := uw 582 (by decide +kernel) (by decide +kernel)
theorem u_co_yX5_stateOf : (.code yX5_stateOf cX5_stateOf 2 (some FieldType.int) : Cond) ∈ UW := uw 583 (by decide +kernel) (by decide +kernel)
theorem u_ml_RL_126 : (.methodLink RL 126 yL_lengthAlone : Cond) ∈ UW := uw 584 (by decide +kernel) (by decide +kernel)
theorem u_st_yL_lengthAlone : (.static yL_lengthAlone : Cond) ∈ UW := uw 585 (by decide +kernel) (by decide +kernel)
theorem u_ml_RL_43 : (.methodLink RL 43 yX5_lengthAlone : Cond) ∈ UW := uw 587 (by decide +kernel) (by decide +kernel)
theorem u_im_yX5_lengthAlone : (.instanceMethod yX5_lengthAlone : Cond) ∈ UW := uw 588 (by decide +kernel) (by decide +kernel)
theorem u_se_yX5_lengthAlone : (.selects RX5 yX5_lengthAlone yX5_lengthAlone : Cond) ∈ UW := uw 589 (by decide +kernel) (by decide +kernel)
theorem u_co_yX5_lengthAlone : (.code yX5_lengthAlone cX5_lengthAlone 2 (some FieldType.int) : Cond) ∈ UW := uw 590 (by decide +kernel) (by decide +kernel)
theorem u_ml_RX5_150 : (.methodLink RX5 150 yX2_leastLength : Cond) ∈ UW := uw 591 (by decide +kernel) (by decide +kernel)
theorem u_im_yX2_leastLength : (.instanceMethod yX2_leastLength : Cond) ∈ UW := uw 592 (by decide +kernel) (by decide +kernel)
theorem u_se_yX2_leastLength : (.selects RX2 yX2_leastLength yX2_leastLength : Cond) ∈ UW := uw 593 (by decide +kernel) (by decide +kernel)
theorem u_co_yX2_leastLength : (.code yX2_leastLength cX2_leastLength 2 (some FieldType.int) : Cond) ∈ UW := uw 594 (by decide +kernel) (by decide +kernel)
theorem u_ml_RX2_27 : (.methodLink RX2 27 yX2_gather : Cond) ∈ UW := uw 595 (by decide +kernel) (by decide +kernel)
theorem u_im_yX2_gather : (.instanceMethod yX2_gather : Cond) ∈ UW := uw 597 (by decide +kernel) (by decide +kernel)
theorem u_co_yX2_gather : (.code yX2_gather cX2_gather 5 (none) : Cond) ∈ UW := uw 598 (by decide +kernel) (by decide +kernel)
theorem n_mn_RX2_65 : (.methodLinkNest RX2 65 yX5_isIn RX5 : Cond) ∈ UN := un 599 (by decide +kernel) (by decide +kernel)
theorem u_ml_RX2_70 : (.methodLink RX2 70 yX2_insertPlace : Cond) ∈ UW := uw 600 (by decide +kernel) (by decide +kernel)
theorem u_im_yX2_insertPlace : (.instanceMethod yX2_insertPlace : Cond) ∈ UW := uw 602 (by decide +kernel) (by decide +kernel)
theorem u_co_yX2_insertPlace : (.code yX2_insertPlace cX2_insertPlace 3 (none) : Cond) ∈ UW := uw 603 (by decide +kernel) (by decide +kernel)
theorem u_ml_RX2_73 : (.methodLink RX2 73 yX3_between : Cond) ∈ UW := uw 604 (by decide +kernel) (by decide +kernel)
theorem u_ml_RX2_31 : (.methodLink RX2 31 yX2_fillOnward : Cond) ∈ UW := uw 605 (by decide +kernel) (by decide +kernel)
theorem u_im_yX2_fillOnward : (.instanceMethod yX2_fillOnward : Cond) ∈ UW := uw 607 (by decide +kernel) (by decide +kernel)
theorem u_co_yX2_fillOnward : (.code yX2_fillOnward cX2_fillOnward 4 (none) : Cond) ∈ UW := uw 608 (by decide +kernel) (by decide +kernel)
theorem u_ml_RX2_38 : (.methodLink RX2 38 yX2_leastOnward : Cond) ∈ UW := uw 609 (by decide +kernel) (by decide +kernel)
theorem u_im_yX2_leastOnward : (.instanceMethod yX2_leastOnward : Cond) ∈ UW := uw 611 (by decide +kernel) (by decide +kernel)
theorem u_co_yX2_leastOnward : (.code yX2_leastOnward cX2_leastOnward 5 (some FieldType.int) : Cond) ∈ UW := uw 612 (by decide +kernel) (by decide +kernel)
theorem u_ct_RX2_49 : (.constant RX2 49 (1000000 : Int32) : Cond) ∈ UW := uw 613 (by decide +kernel) (by decide +kernel)
theorem u_ml_RX2_76 : (.methodLink RX2 76 yX2_lengthBy : Cond) ∈ UW := uw 614 (by decide +kernel) (by decide +kernel)
theorem u_im_yX2_lengthBy : (.instanceMethod yX2_lengthBy : Cond) ∈ UW := uw 616 (by decide +kernel) (by decide +kernel)
theorem u_co_yX2_lengthBy : (.code yX2_lengthBy cX2_lengthBy 5 (some FieldType.int) : Cond) ∈ UW := uw 617 (by decide +kernel) (by decide +kernel)
theorem u_ml_RX2_80 : (.methodLink RX2 80 yJ9_min_7cf53 : Cond) ∈ UW := uw 618 (by decide +kernel) (by decide +kernel)
theorem u_ml_RX2_34 : (.methodLink RX2 34 yX2_everyPlace : Cond) ∈ UW := uw 619 (by decide +kernel) (by decide +kernel)
theorem u_im_yX2_everyPlace : (.instanceMethod yX2_everyPlace : Cond) ∈ UW := uw 621 (by decide +kernel) (by decide +kernel)
theorem u_co_yX2_everyPlace : (.code yX2_everyPlace cX2_everyPlace 1 (some FieldType.int) : Cond) ∈ UW := uw 622 (by decide +kernel) (by decide +kernel)
theorem u_ml_RL_129 : (.methodLink RL 129 yL_setCapacity : Cond) ∈ UW := uw 623 (by decide +kernel) (by decide +kernel)
theorem u_st_yL_setCapacity : (.static yL_setCapacity : Cond) ∈ UW := uw 624 (by decide +kernel) (by decide +kernel)
theorem u_ml_RL_46 : (.methodLink RL 46 yX5_setCapacity : Cond) ∈ UW := uw 626 (by decide +kernel) (by decide +kernel)
theorem u_im_yX5_setCapacity : (.instanceMethod yX5_setCapacity : Cond) ∈ UW := uw 627 (by decide +kernel) (by decide +kernel)
theorem u_se_yX5_setCapacity : (.selects RX5 yX5_setCapacity yX5_setCapacity : Cond) ∈ UW := uw 628 (by decide +kernel) (by decide +kernel)
theorem u_co_yX5_setCapacity : (.code yX5_setCapacity cX5_setCapacity 3 (some FieldType.int) : Cond) ∈ UW := uw 629 (by decide +kernel) (by decide +kernel)
theorem u_ml_RX5_155 : (.methodLink RX5 155 yX5_mostLinesToDo : Cond) ∈ UW := uw 631 (by decide +kernel) (by decide +kernel)
theorem u_im_yX5_mostLinesToDo : (.instanceMethod yX5_mostLinesToDo : Cond) ∈ UW := uw 633 (by decide +kernel) (by decide +kernel)
theorem u_co_yX5_mostLinesToDo : (.code yX5_mostLinesToDo cX5_mostLinesToDo 4 (some FieldType.int) : Cond) ∈ UW := uw 634 (by decide +kernel) (by decide +kernel)
theorem u_ml_RL_132 : (.methodLink RL 132 yL_planWave : Cond) ∈ UW := uw 636 (by decide +kernel) (by decide +kernel)
theorem u_st_yL_planWave : (.static yL_planWave : Cond) ∈ UW := uw 637 (by decide +kernel) (by decide +kernel)
theorem u_ml_RL_49 : (.methodLink RL 49 yX5_planWave : Cond) ∈ UW := uw 639 (by decide +kernel) (by decide +kernel)
theorem u_im_yX5_planWave : (.instanceMethod yX5_planWave : Cond) ∈ UW := uw 640 (by decide +kernel) (by decide +kernel)
theorem u_se_yX5_planWave : (.selects RX5 yX5_planWave yX5_planWave : Cond) ∈ UW := uw 641 (by decide +kernel) (by decide +kernel)
theorem u_co_yX5_planWave : (.code yX5_planWave cX5_planWave 4 (some FieldType.int) : Cond) ∈ UW := uw 642 (by decide +kernel) (by decide +kernel)
theorem u_ml_RX5_160 : (.methodLink RX5 160 yX5_takesAnyOrder : Cond) ∈ UW := uw 643 (by decide +kernel) (by decide +kernel)
theorem u_im_yX5_takesAnyOrder : (.instanceMethod yX5_takesAnyOrder : Cond) ∈ UW := uw 645 (by decide +kernel) (by decide +kernel)
theorem u_co_yX5_takesAnyOrder : (.code yX5_takesAnyOrder cX5_takesAnyOrder 3 (some FieldType.boolean) : Cond) ∈ UW := uw 646 (by decide +kernel) (by decide +kernel)
theorem u_ml_RX5_169 : (.methodLink RX5 169 yX1_isTakenAt : Cond) ∈ UW := uw 647 (by decide +kernel) (by decide +kernel)
theorem u_im_yX1_isTakenAt : (.instanceMethod yX1_isTakenAt : Cond) ∈ UW := uw 648 (by decide +kernel) (by decide +kernel)
theorem u_se_yX1_isTakenAt : (.selects RX1 yX1_isTakenAt yX1_isTakenAt : Cond) ∈ UW := uw 649 (by decide +kernel) (by decide +kernel)
theorem u_co_yX1_isTakenAt : (.code yX1_isTakenAt cX1_isTakenAt 2 (some FieldType.boolean) : Cond) ∈ UW := uw 650 (by decide +kernel) (by decide +kernel)
theorem u_ml_RX5_172 : (.methodLink RX5 172 yX4_take : Cond) ∈ UW := uw 652 (by decide +kernel) (by decide +kernel)
theorem u_im_yX4_take : (.instanceMethod yX4_take : Cond) ∈ UW := uw 653 (by decide +kernel) (by decide +kernel)
theorem u_se_yX4_take : (.selects RX4 yX4_take yX4_take : Cond) ∈ UW := uw 654 (by decide +kernel) (by decide +kernel)
theorem u_co_yX4_take : (.code yX4_take cX4_take 3 (none) : Cond) ∈ UW := uw 655 (by decide +kernel) (by decide +kernel)
theorem u_cl_RX4_35 : (.classLink RX4 35 RX0 : Cond) ∈ UW := uw 656 (by decide +kernel) (by decide +kernel)
theorem u_is_RX0 : (.instantiable RX0 6 : Cond) ∈ UW := uw 657 (by decide +kernel) (by decide +kernel)
theorem u_ml_RX4_43 : (.methodLink RX4 43 yX2_leastLength : Cond) ∈ UW := uw 658 (by decide +kernel) (by decide +kernel)
theorem u_ml_RX4_49 : (.methodLink RX4 49 yX0_init : Cond) ∈ UW := uw 659 (by decide +kernel) (by decide +kernel)
theorem u_im_yX0_init : (.instanceMethod yX0_init : Cond) ∈ UW := uw 660 (by decide +kernel) (by decide +kernel)
theorem u_co_yX0_init : (.code yX0_init cX0_init 5 (none) : Cond) ∈ UW := uw 661 (by decide +kernel) (by decide +kernel)
theorem u_ml_RX0_3 : (.methodLink RX0 3 objectInit : Cond) ∈ UW := uw 662 (by decide +kernel) (by decide +kernel)
theorem u_ml_RX0_29 : (.methodLink RX0 29 yX1_countLines : Cond) ∈ UW := uw 663 (by decide +kernel) (by decide +kernel)
theorem u_fl_RX0_15 : (.fieldLink RX0 15 "Aislewright$Batch" "row" "I" : Cond) ∈ UW := uw 664 (by decide +kernel) (by decide +kernel)
theorem n_fn_RX4_82 : (.fieldLinkNest RX4 82 "Aislewright$Batch" "row" "I" RX5 : Cond) ∈ UN := un 665 (by decide +kernel) (by decide +kernel)
theorem u_fl_RX0_19 : (.fieldLink RX0 19 "Aislewright$Batch" "orderBits" "J" : Cond) ∈ UW := uw 666 (by decide +kernel) (by decide +kernel)
theorem u_fl_RX0_28 : (.fieldLink RX0 28 "Aislewright$Batch" "products" "I" : Cond) ∈ UW := uw 667 (by decide +kernel) (by decide +kernel)
theorem n_fn_RX4_67 : (.fieldLinkNest RX4 67 "Aislewright$Batch" "products" "I" RX5 : Cond) ∈ UN := un 668 (by decide +kernel) (by decide +kernel)
theorem n_fn_RX5_213 : (.fieldLinkNest RX5 213 "Aislewright$Batch" "products" "I" RX5 : Cond) ∈ UN := un 669 (by decide +kernel) (by decide +kernel)
theorem u_fl_RX0_33 : (.fieldLink RX0 33 "Aislewright$Batch" "lines" "I" : Cond) ∈ UW := uw 670 (by decide +kernel) (by decide +kernel)
theorem n_fn_RX4_76 : (.fieldLinkNest RX4 76 "Aislewright$Batch" "lines" "I" RX5 : Cond) ∈ UN := un 671 (by decide +kernel) (by decide +kernel)
theorem n_fn_RX5_205 : (.fieldLinkNest RX5 205 "Aislewright$Batch" "lines" "I" RX5 : Cond) ∈ UN := un 672 (by decide +kernel) (by decide +kernel)
theorem u_fl_RX0_36 : (.fieldLink RX0 36 "Aislewright$Batch" "length" "I" : Cond) ∈ UW := uw 673 (by decide +kernel) (by decide +kernel)
theorem n_fn_RX4_79 : (.fieldLinkNest RX4 79 "Aislewright$Batch" "length" "I" RX5 : Cond) ∈ UN := un 674 (by decide +kernel) (by decide +kernel)
theorem n_fn_RX5_196 : (.fieldLinkNest RX5 196 "Aislewright$Batch" "length" "I" RX5 : Cond) ∈ UN := un 675 (by decide +kernel) (by decide +kernel)
theorem u_fl_RX0_9 : (.fieldLink RX0 9 "Aislewright$Batch" "route" "[I" : Cond) ∈ UW := uw 676 (by decide +kernel) (by decide +kernel)
theorem n_fn_RX4_72 : (.fieldLinkNest RX4 72 "Aislewright$Batch" "route" "[I" RX5 : Cond) ∈ UN := un 677 (by decide +kernel) (by decide +kernel)
theorem n_fn_RX5_208 : (.fieldLinkNest RX5 208 "Aislewright$Batch" "route" "[I" RX5 : Cond) ∈ UN := un 678 (by decide +kernel) (by decide +kernel)
theorem u_ml_RX4_52 : (.methodLink RX4 52 yJx4a65c_add_9ea2d : Cond) ∈ UW := uw 692 (by decide +kernel) (by decide +kernel)
theorem u_ml_RX5_176 : (.methodLink RX5 176 yX4_join : Cond) ∈ UW := uw 693 (by decide +kernel) (by decide +kernel)
theorem u_im_yX4_join : (.instanceMethod yX4_join : Cond) ∈ UW := uw 694 (by decide +kernel) (by decide +kernel)
theorem u_se_yX4_join : (.selects RX4 yX4_join yX4_join : Cond) ∈ UW := uw 695 (by decide +kernel) (by decide +kernel)
theorem u_co_yX4_join : (.code yX4_join cX4_join 5 (none) : Cond) ∈ UW := uw 696 (by decide +kernel) (by decide +kernel)
theorem u_ml_RX4_56 : (.methodLink RX4 56 yX4_noteSaving : Cond) ∈ UW := uw 697 (by decide +kernel) (by decide +kernel)
theorem u_im_yX4_noteSaving : (.instanceMethod yX4_noteSaving : Cond) ∈ UW := uw 699 (by decide +kernel) (by decide +kernel)
theorem u_co_yX4_noteSaving : (.code yX4_noteSaving cX4_noteSaving 7 (none) : Cond) ∈ UW := uw 700 (by decide +kernel) (by decide +kernel)
theorem u_ml_RX4_63 : (.methodLink RX4 63 yJx4a65c_get_915e3 : Cond) ∈ UW := uw 701 (by decide +kernel) (by decide +kernel)
theorem u_ml_RX4_60 : (.methodLink RX4 60 yX4_joinBestPair : Cond) ∈ UW := uw 702 (by decide +kernel) (by decide +kernel)
theorem u_im_yX4_joinBestPair : (.instanceMethod yX4_joinBestPair : Cond) ∈ UW := uw 704 (by decide +kernel) (by decide +kernel)
theorem u_co_yX4_joinBestPair : (.code yX4_joinBestPair cX4_joinBestPair 7 (some FieldType.int) : Cond) ∈ UW := uw 705 (by decide +kernel) (by decide +kernel)
theorem u_ml_RX4_85 : (.methodLink RX4 85 yX4_savingOf : Cond) ∈ UW := uw 706 (by decide +kernel) (by decide +kernel)
theorem u_im_yX4_savingOf : (.instanceMethod yX4_savingOf : Cond) ∈ UW := uw 708 (by decide +kernel) (by decide +kernel)
theorem u_co_yX4_savingOf : (.code yX4_savingOf cX4_savingOf 3 (some FieldType.int) : Cond) ∈ UW := uw 709 (by decide +kernel) (by decide +kernel)
theorem u_ml_RX4_89 : (.methodLink RX4 89 yX0_absorb : Cond) ∈ UW := uw 710 (by decide +kernel) (by decide +kernel)
theorem u_im_yX0_absorb : (.instanceMethod yX0_absorb : Cond) ∈ UW := uw 711 (by decide +kernel) (by decide +kernel)
theorem u_se_yX0_absorb : (.selects RX0 yX0_absorb yX0_absorb : Cond) ∈ UW := uw 712 (by decide +kernel) (by decide +kernel)
theorem u_co_yX0_absorb : (.code yX0_absorb cX0_absorb 3 (none) : Cond) ∈ UW := uw 713 (by decide +kernel) (by decide +kernel)
theorem u_ml_RX4_93 : (.methodLink RX4 93 yJx4a65c_remove_915e3 : Cond) ∈ UW := uw 714 (by decide +kernel) (by decide +kernel)
theorem u_im_yJx4a65c_remove_915e3 : (.instanceMethod yJx4a65c_remove_915e3 : Cond) ∈ UW := uw 715 (by decide +kernel) (by decide +kernel)
theorem u_se_yJx4a65c_remove_915e3 : (.selects RJx4a65c yJx4a65c_remove_915e3 yJx4a65c_remove_915e3 : Cond) ∈ UW := uw 716 (by decide +kernel) (by decide +kernel)
theorem u_co_yJx4a65c_remove_915e3 : (.code yJx4a65c_remove_915e3 cJx4a65c_remove_915e3 4 (some (FieldType.object "java/lang/Object")) : Cond) ∈ UW := uw 717 (by decide +kernel) (by decide +kernel)
theorem u_ml_RJx4a65c_144 : (.methodLink RJx4a65c 144 yJx4a65c_fastRemove_b59b0 : Cond) ∈ UW := uw 718 (by decide +kernel) (by decide +kernel)
theorem u_im_yJx4a65c_fastRemove_b59b0 : (.instanceMethod yJx4a65c_fastRemove_b59b0 : Cond) ∈ UW := uw 720 (by decide +kernel) (by decide +kernel)
theorem u_co_yJx4a65c_fastRemove_b59b0 : (.code yJx4a65c_fastRemove_b59b0 cJx4a65c_fastRemove_b59b0 4 (none) : Cond) ∈ UW := uw 721 (by decide +kernel) (by decide +kernel)
theorem u_ml_RX4_68 : (.methodLink RX4 68 yX2_bestRoute : Cond) ∈ UW := uw 723 (by decide +kernel) (by decide +kernel)
theorem u_im_yX2_bestRoute : (.instanceMethod yX2_bestRoute : Cond) ∈ UW := uw 724 (by decide +kernel) (by decide +kernel)
theorem u_se_yX2_bestRoute : (.selects RX2 yX2_bestRoute yX2_bestRoute : Cond) ∈ UW := uw 725 (by decide +kernel) (by decide +kernel)
theorem u_co_yX2_bestRoute : (.code yX2_bestRoute cX2_bestRoute 6 (some (FieldType.array FieldType.int)) : Cond) ∈ UW := uw 726 (by decide +kernel) (by decide +kernel)
theorem u_ml_RX2_46 : (.methodLink RX2 46 yX2_bestNext : Cond) ∈ UW := uw 727 (by decide +kernel) (by decide +kernel)
theorem u_im_yX2_bestNext : (.instanceMethod yX2_bestNext : Cond) ∈ UW := uw 729 (by decide +kernel) (by decide +kernel)
theorem u_co_yX2_bestNext : (.code yX2_bestNext cX2_bestNext 6 (some FieldType.int) : Cond) ∈ UW := uw 730 (by decide +kernel) (by decide +kernel)
theorem u_ml_RL_135 : (.methodLink RL 135 yL_pick : Cond) ∈ UW := uw 731 (by decide +kernel) (by decide +kernel)
theorem u_st_yL_pick : (.static yL_pick : Cond) ∈ UW := uw 732 (by decide +kernel) (by decide +kernel)
theorem u_ml_RL_52 : (.methodLink RL 52 yX5_pick : Cond) ∈ UW := uw 734 (by decide +kernel) (by decide +kernel)
theorem u_im_yX5_pick : (.instanceMethod yX5_pick : Cond) ∈ UW := uw 735 (by decide +kernel) (by decide +kernel)
theorem u_se_yX5_pick : (.selects RX5 yX5_pick yX5_pick : Cond) ∈ UW := uw 736 (by decide +kernel) (by decide +kernel)
theorem u_co_yX5_pick : (.code yX5_pick cX5_pick 4 (some FieldType.int) : Cond) ∈ UW := uw 737 (by decide +kernel) (by decide +kernel)
theorem u_ml_RX5_180 : (.methodLink RX5 180 yX5_batchNumbered : Cond) ∈ UW := uw 738 (by decide +kernel) (by decide +kernel)
theorem u_im_yX5_batchNumbered : (.instanceMethod yX5_batchNumbered : Cond) ∈ UW := uw 740 (by decide +kernel) (by decide +kernel)
theorem u_co_yX5_batchNumbered : (.code yX5_batchNumbered cX5_batchNumbered 2 (some (FieldType.object "Aislewright$Batch")) : Cond) ∈ UW := uw 741 (by decide +kernel) (by decide +kernel)
theorem u_cl_RX5_185 : (.classLink RX5 185 RX0 : Cond) ∈ UW := uw 743 (by decide +kernel) (by decide +kernel)
theorem u_ml_RX5_184 : (.methodLink RX5 184 yX0_holds : Cond) ∈ UW := uw 744 (by decide +kernel) (by decide +kernel)
theorem u_im_yX0_holds : (.instanceMethod yX0_holds : Cond) ∈ UW := uw 745 (by decide +kernel) (by decide +kernel)
theorem u_se_yX0_holds : (.selects RX0 yX0_holds yX0_holds : Cond) ∈ UW := uw 746 (by decide +kernel) (by decide +kernel)
theorem u_co_yX0_holds : (.code yX0_holds cX0_holds 2 (some FieldType.boolean) : Cond) ∈ UW := uw 747 (by decide +kernel) (by decide +kernel)
theorem u_ml_RX5_189 : (.methodLink RX5 189 yX5_finish : Cond) ∈ UW := uw 748 (by decide +kernel) (by decide +kernel)
theorem u_im_yX5_finish : (.instanceMethod yX5_finish : Cond) ∈ UW := uw 750 (by decide +kernel) (by decide +kernel)
theorem u_co_yX5_finish : (.code yX5_finish cX5_finish 2 (none) : Cond) ∈ UW := uw 751 (by decide +kernel) (by decide +kernel)
theorem u_ml_RX5_249 : (.methodLink RX5 249 yX3_addTurnover : Cond) ∈ UW := uw 752 (by decide +kernel) (by decide +kernel)
theorem u_im_yX3_addTurnover : (.instanceMethod yX3_addTurnover : Cond) ∈ UW := uw 753 (by decide +kernel) (by decide +kernel)
theorem u_se_yX3_addTurnover : (.selects RX3 yX3_addTurnover yX3_addTurnover : Cond) ∈ UW := uw 754 (by decide +kernel) (by decide +kernel)
theorem u_co_yX3_addTurnover : (.code yX3_addTurnover cX3_addTurnover 3 (none) : Cond) ∈ UW := uw 755 (by decide +kernel) (by decide +kernel)
theorem u_ml_RX5_199 : (.methodLink RX5 199 yX4_drop : Cond) ∈ UW := uw 756 (by decide +kernel) (by decide +kernel)
theorem u_im_yX4_drop : (.instanceMethod yX4_drop : Cond) ∈ UW := uw 757 (by decide +kernel) (by decide +kernel)
theorem u_se_yX4_drop : (.selects RX4 yX4_drop yX4_drop : Cond) ∈ UW := uw 758 (by decide +kernel) (by decide +kernel)
theorem u_co_yX4_drop : (.code yX4_drop cX4_drop 2 (none) : Cond) ∈ UW := uw 759 (by decide +kernel) (by decide +kernel)
theorem u_ml_RL_142 : (.methodLink RL 142 yL_batchOf : Cond) ∈ UW := uw 760 (by decide +kernel) (by decide +kernel)
theorem u_st_yL_batchOf : (.static yL_batchOf : Cond) ∈ UW := uw 761 (by decide +kernel) (by decide +kernel)
theorem u_ml_RL_55 : (.methodLink RL 55 yX5_batchOf : Cond) ∈ UW := uw 763 (by decide +kernel) (by decide +kernel)
theorem u_im_yX5_batchOf : (.instanceMethod yX5_batchOf : Cond) ∈ UW := uw 764 (by decide +kernel) (by decide +kernel)
theorem u_se_yX5_batchOf : (.selects RX5 yX5_batchOf yX5_batchOf : Cond) ∈ UW := uw 765 (by decide +kernel) (by decide +kernel)
theorem u_co_yX5_batchOf : (.code yX5_batchOf cX5_batchOf 2 (some FieldType.int) : Cond) ∈ UW := uw 766 (by decide +kernel) (by decide +kernel)
theorem u_ml_RX5_202 : (.methodLink RX5 202 yX4_batchWith : Cond) ∈ UW := uw 767 (by decide +kernel) (by decide +kernel)
theorem u_im_yX4_batchWith : (.instanceMethod yX4_batchWith : Cond) ∈ UW := uw 768 (by decide +kernel) (by decide +kernel)
theorem u_se_yX4_batchWith : (.selects RX4 yX4_batchWith yX4_batchWith : Cond) ∈ UW := uw 769 (by decide +kernel) (by decide +kernel)
theorem u_co_yX4_batchWith : (.code yX4_batchWith cX4_batchWith 3 (some FieldType.int) : Cond) ∈ UW := uw 770 (by decide +kernel) (by decide +kernel)
theorem u_ml_RX4_96 : (.methodLink RX4 96 yX0_holds : Cond) ∈ UW := uw 771 (by decide +kernel) (by decide +kernel)
theorem u_ml_RL_145 : (.methodLink RL 145 yL_linesOf : Cond) ∈ UW := uw 772 (by decide +kernel) (by decide +kernel)
theorem u_st_yL_linesOf : (.static yL_linesOf : Cond) ∈ UW := uw 773 (by decide +kernel) (by decide +kernel)
theorem u_ml_RL_58 : (.methodLink RL 58 yX5_linesOf : Cond) ∈ UW := uw 775 (by decide +kernel) (by decide +kernel)
theorem u_im_yX5_linesOf : (.instanceMethod yX5_linesOf : Cond) ∈ UW := uw 776 (by decide +kernel) (by decide +kernel)
theorem u_se_yX5_linesOf : (.selects RX5 yX5_linesOf yX5_linesOf : Cond) ∈ UW := uw 777 (by decide +kernel) (by decide +kernel)
theorem u_co_yX5_linesOf : (.code yX5_linesOf cX5_linesOf 2 (some FieldType.int) : Cond) ∈ UW := uw 778 (by decide +kernel) (by decide +kernel)
theorem u_ml_RL_148 : (.methodLink RL 148 yL_lengthOf : Cond) ∈ UW := uw 779 (by decide +kernel) (by decide +kernel)
theorem u_st_yL_lengthOf : (.static yL_lengthOf : Cond) ∈ UW := uw 780 (by decide +kernel) (by decide +kernel)
theorem u_ml_RL_61 : (.methodLink RL 61 yX5_lengthOf : Cond) ∈ UW := uw 782 (by decide +kernel) (by decide +kernel)
theorem u_im_yX5_lengthOf : (.instanceMethod yX5_lengthOf : Cond) ∈ UW := uw 783 (by decide +kernel) (by decide +kernel)
theorem u_se_yX5_lengthOf : (.selects RX5 yX5_lengthOf yX5_lengthOf : Cond) ∈ UW := uw 784 (by decide +kernel) (by decide +kernel)
theorem u_co_yX5_lengthOf : (.code yX5_lengthOf cX5_lengthOf 2 (some FieldType.int) : Cond) ∈ UW := uw 785 (by decide +kernel) (by decide +kernel)
theorem u_ml_RL_151 : (.methodLink RL 151 yL_lengthByTrying : Cond) ∈ UW := uw 786 (by decide +kernel) (by decide +kernel)
theorem u_st_yL_lengthByTrying : (.static yL_lengthByTrying : Cond) ∈ UW := uw 787 (by decide +kernel) (by decide +kernel)
theorem u_ml_RL_64 : (.methodLink RL 64 yX5_lengthByTrying : Cond) ∈ UW := uw 789 (by decide +kernel) (by decide +kernel)
theorem u_im_yX5_lengthByTrying : (.instanceMethod yX5_lengthByTrying : Cond) ∈ UW := uw 790 (by decide +kernel) (by decide +kernel)
theorem u_se_yX5_lengthByTrying : (.selects RX5 yX5_lengthByTrying yX5_lengthByTrying : Cond) ∈ UW := uw 791 (by decide +kernel) (by decide +kernel)
theorem u_co_yX5_lengthByTrying : (.code yX5_lengthByTrying cX5_lengthByTrying 3 (some FieldType.int) : Cond) ∈ UW := uw 792 (by decide +kernel) (by decide +kernel)
theorem u_ml_RX5_214 : (.methodLink RX5 214 yX2_leastByTrying : Cond) ∈ UW := uw 794 (by decide +kernel) (by decide +kernel)
theorem u_im_yX2_leastByTrying : (.instanceMethod yX2_leastByTrying : Cond) ∈ UW := uw 795 (by decide +kernel) (by decide +kernel)
theorem u_se_yX2_leastByTrying : (.selects RX2 yX2_leastByTrying yX2_leastByTrying : Cond) ∈ UW := uw 796 (by decide +kernel) (by decide +kernel)
theorem u_co_yX2_leastByTrying : (.code yX2_leastByTrying cX2_leastByTrying 2 (some FieldType.int) : Cond) ∈ UW := uw 797 (by decide +kernel) (by decide +kernel)
theorem u_ml_RX2_50 : (.methodLink RX2 50 yX2_tryFrom : Cond) ∈ UW := uw 798 (by decide +kernel) (by decide +kernel)
theorem u_st_yX2_tryFrom : (.static yX2_tryFrom : Cond) ∈ UW := uw 799 (by decide +kernel) (by decide +kernel)
theorem u_co_yX2_tryFrom : (.code yX2_tryFrom cX2_tryFrom 9 (some FieldType.int) : Cond) ∈ UW := uw 800 (by decide +kernel) (by decide +kernel)
theorem u_ml_RL_154 : (.methodLink RL 154 yL_lengthThrough : Cond) ∈ UW := uw 801 (by decide +kernel) (by decide +kernel)
theorem u_st_yL_lengthThrough : (.static yL_lengthThrough : Cond) ∈ UW := uw 802 (by decide +kernel) (by decide +kernel)
theorem u_ml_RL_67 : (.methodLink RL 67 yX5_lengthThrough : Cond) ∈ UW := uw 804 (by decide +kernel) (by decide +kernel)
theorem u_im_yX5_lengthThrough : (.instanceMethod yX5_lengthThrough : Cond) ∈ UW := uw 805 (by decide +kernel) (by decide +kernel)
theorem u_se_yX5_lengthThrough : (.selects RX5 yX5_lengthThrough yX5_lengthThrough : Cond) ∈ UW := uw 806 (by decide +kernel) (by decide +kernel)
theorem u_co_yX5_lengthThrough : (.code yX5_lengthThrough cX5_lengthThrough 2 (some FieldType.int) : Cond) ∈ UW := uw 807 (by decide +kernel) (by decide +kernel)
theorem u_ml_RX5_217 : (.methodLink RX5 217 yX2_throughAisles : Cond) ∈ UW := uw 808 (by decide +kernel) (by decide +kernel)
theorem u_im_yX2_throughAisles : (.instanceMethod yX2_throughAisles : Cond) ∈ UW := uw 809 (by decide +kernel) (by decide +kernel)
theorem u_se_yX2_throughAisles : (.selects RX2 yX2_throughAisles yX2_throughAisles : Cond) ∈ UW := uw 810 (by decide +kernel) (by decide +kernel)
theorem u_co_yX2_throughAisles : (.code yX2_throughAisles cX2_throughAisles 6 (some FieldType.int) : Cond) ∈ UW := uw 811 (by decide +kernel) (by decide +kernel)
theorem u_ml_RX2_54 : (.methodLink RX2 54 yX2_countAisles : Cond) ∈ UW := uw 812 (by decide +kernel) (by decide +kernel)
theorem u_im_yX2_countAisles : (.instanceMethod yX2_countAisles : Cond) ∈ UW := uw 814 (by decide +kernel) (by decide +kernel)
theorem u_co_yX2_countAisles : (.code yX2_countAisles cX2_countAisles 5 (some FieldType.int) : Cond) ∈ UW := uw 815 (by decide +kernel) (by decide +kernel)
theorem u_ml_RX2_57 : (.methodLink RX2 57 yX3_depth : Cond) ∈ UW := uw 816 (by decide +kernel) (by decide +kernel)
theorem u_ml_RL_157 : (.methodLink RL 157 yL_stops : Cond) ∈ UW := uw 817 (by decide +kernel) (by decide +kernel)
theorem u_st_yL_stops : (.static yL_stops : Cond) ∈ UW := uw 818 (by decide +kernel) (by decide +kernel)
theorem u_ml_RL_70 : (.methodLink RL 70 yX5_stops : Cond) ∈ UW := uw 820 (by decide +kernel) (by decide +kernel)
theorem u_im_yX5_stops : (.instanceMethod yX5_stops : Cond) ∈ UW := uw 821 (by decide +kernel) (by decide +kernel)
theorem u_se_yX5_stops : (.selects RX5 yX5_stops yX5_stops : Cond) ∈ UW := uw 822 (by decide +kernel) (by decide +kernel)
theorem u_co_yX5_stops : (.code yX5_stops cX5_stops 2 (some FieldType.int) : Cond) ∈ UW := uw 823 (by decide +kernel) (by decide +kernel)
theorem u_ml_RL_160 : (.methodLink RL 160 yL_stopAt : Cond) ∈ UW := uw 824 (by decide +kernel) (by decide +kernel)
theorem u_st_yL_stopAt : (.static yL_stopAt : Cond) ∈ UW := uw 825 (by decide +kernel) (by decide +kernel)
theorem u_ml_RL_73 : (.methodLink RL 73 yX5_stopAt : Cond) ∈ UW := uw 827 (by decide +kernel) (by decide +kernel)
theorem u_im_yX5_stopAt : (.instanceMethod yX5_stopAt : Cond) ∈ UW := uw 828 (by decide +kernel) (by decide +kernel)
theorem u_se_yX5_stopAt : (.selects RX5 yX5_stopAt yX5_stopAt : Cond) ∈ UW := uw 829 (by decide +kernel) (by decide +kernel)
theorem u_co_yX5_stopAt : (.code yX5_stopAt cX5_stopAt 4 (some FieldType.int) : Cond) ∈ UW := uw 830 (by decide +kernel) (by decide +kernel)
theorem u_ml_RL_163 : (.methodLink RL 163 yL_inAisle : Cond) ∈ UW := uw 832 (by decide +kernel) (by decide +kernel)
theorem u_st_yL_inAisle : (.static yL_inAisle : Cond) ∈ UW := uw 833 (by decide +kernel) (by decide +kernel)
theorem u_ml_RL_76 : (.methodLink RL 76 yX5_inAisle : Cond) ∈ UW := uw 835 (by decide +kernel) (by decide +kernel)
theorem u_im_yX5_inAisle : (.instanceMethod yX5_inAisle : Cond) ∈ UW := uw 836 (by decide +kernel) (by decide +kernel)
theorem u_se_yX5_inAisle : (.selects RX5 yX5_inAisle yX5_inAisle : Cond) ∈ UW := uw 837 (by decide +kernel) (by decide +kernel)
theorem u_co_yX5_inAisle : (.code yX5_inAisle cX5_inAisle 2 (some FieldType.int) : Cond) ∈ UW := uw 838 (by decide +kernel) (by decide +kernel)
theorem u_ml_RX5_224 : (.methodLink RX5 224 yX4_countIn : Cond) ∈ UW := uw 840 (by decide +kernel) (by decide +kernel)
theorem u_im_yX4_countIn : (.instanceMethod yX4_countIn : Cond) ∈ UW := uw 841 (by decide +kernel) (by decide +kernel)
theorem u_se_yX4_countIn : (.selects RX4 yX4_countIn yX4_countIn : Cond) ∈ UW := uw 842 (by decide +kernel) (by decide +kernel)
theorem u_co_yX4_countIn : (.code yX4_countIn cX4_countIn 4 (some FieldType.int) : Cond) ∈ UW := uw 843 (by decide +kernel) (by decide +kernel)
theorem u_ml_RX4_100 : (.methodLink RX4 100 yX0_comesInto : Cond) ∈ UW := uw 844 (by decide +kernel) (by decide +kernel)
theorem u_im_yX0_comesInto : (.instanceMethod yX0_comesInto : Cond) ∈ UW := uw 845 (by decide +kernel) (by decide +kernel)
theorem u_se_yX0_comesInto : (.selects RX0 yX0_comesInto yX0_comesInto : Cond) ∈ UW := uw 846 (by decide +kernel) (by decide +kernel)
theorem u_co_yX0_comesInto : (.code yX0_comesInto cX0_comesInto 3 (some FieldType.boolean) : Cond) ∈ UW := uw 847 (by decide +kernel) (by decide +kernel)
theorem u_cl_RL_88 : (.classLink RL 88 RX6 : Cond) ∈ UW := uw 848 (by decide +kernel) (by decide +kernel)
theorem u_is_RX6 : (.instantiable RX6 22 : Cond) ∈ UW := uw 849 (by decide +kernel) (by decide +kernel)
theorem u_ml_RL_90 : (.methodLink RL 90 yX6_init : Cond) ∈ UW := uw 850 (by decide +kernel) (by decide +kernel)
theorem u_im_yX6_init : (.instanceMethod yX6_init : Cond) ∈ UW := uw 851 (by decide +kernel) (by decide +kernel)
theorem u_co_yX6_init : (.code yX6_init cX6_init 5 (none) : Cond) ∈ UW := uw 852 (by decide +kernel) (by decide +kernel)
theorem u_ml_RX6_1 : (.methodLink RX6 1 objectInit : Cond) ∈ UW := uw 853 (by decide +kernel) (by decide +kernel)
theorem u_fl_RX6_59 : (.fieldLink RX6 59 "AislewrightModel" "thrown" "I" : Cond) ∈ UW := uw 854 (by decide +kernel) (by decide +kernel)
theorem u_fl_RX6_50 : (.fieldLink RX6 50 "AislewrightModel" "aisles" "I" : Cond) ∈ UW := uw 855 (by decide +kernel) (by decide +kernel)
theorem u_fl_RX6_53 : (.fieldLink RX6 53 "AislewrightModel" "positions" "I" : Cond) ∈ UW := uw 856 (by decide +kernel) (by decide +kernel)
theorem u_fl_RX6_56 : (.fieldLink RX6 56 "AislewrightModel" "gap" "I" : Cond) ∈ UW := uw 857 (by decide +kernel) (by decide +kernel)
theorem u_fl_RX6_7 : (.fieldLink RX6 7 "AislewrightModel" "capacity" "I" : Cond) ∈ UW := uw 858 (by decide +kernel) (by decide +kernel)
theorem u_fl_RX6_13 : (.fieldLink RX6 13 "AislewrightModel" "place" "[I" : Cond) ∈ UW := uw 859 (by decide +kernel) (by decide +kernel)
theorem u_fl_RX6_66 : (.fieldLink RX6 66 "AislewrightModel" "orders" "I" : Cond) ∈ UW := uw 860 (by decide +kernel) (by decide +kernel)
theorem u_fl_RX6_17 : (.fieldLink RX6 17 "AislewrightModel" "due" "[I" : Cond) ∈ UW := uw 861 (by decide +kernel) (by decide +kernel)
theorem u_fl_RX6_20 : (.fieldLink RX6 20 "AislewrightModel" "state" "[I" : Cond) ∈ UW := uw 862 (by decide +kernel) (by decide +kernel)
theorem u_fl_RX6_23 : (.fieldLink RX6 23 "AislewrightModel" "batch" "[I" : Cond) ∈ UW := uw 863 (by decide +kernel) (by decide +kernel)
theorem u_fl_RX6_26 : (.fieldLink RX6 26 "AislewrightModel" "many" "[I" : Cond) ∈ UW := uw 864 (by decide +kernel) (by decide +kernel)
theorem u_fl_RX6_29 : (.fieldLink RX6 29 "AislewrightModel" "product" "[I" : Cond) ∈ UW := uw 865 (by decide +kernel) (by decide +kernel)
theorem u_fl_RX6_32 : (.fieldLink RX6 32 "AislewrightModel" "quantity" "[I" : Cond) ∈ UW := uw 866 (by decide +kernel) (by decide +kernel)
theorem u_fl_RX6_69 : (.fieldLink RX6 69 "AislewrightModel" "batches" "I" : Cond) ∈ UW := uw 867 (by decide +kernel) (by decide +kernel)
theorem u_fl_RX6_137 : (.fieldLink RX6 137 "AislewrightModel" "walked" "I" : Cond) ∈ UW := uw 868 (by decide +kernel) (by decide +kernel)
theorem u_fl_RX6_133 : (.fieldLink RX6 133 "AislewrightModel" "alone" "J" : Cond) ∈ UW := uw 869 (by decide +kernel) (by decide +kernel)
theorem u_fl_RX6_76 : (.fieldLink RX6 76 "AislewrightModel" "stops" "I" : Cond) ∈ UW := uw 870 (by decide +kernel) (by decide +kernel)
theorem u_fl_RX6_35 : (.fieldLink RX6 35 "AislewrightModel" "stop" "[I" : Cond) ∈ UW := uw 871 (by decide +kernel) (by decide +kernel)
theorem u_fl_RX6_38 : (.fieldLink RX6 38 "AislewrightModel" "on" "[I" : Cond) ∈ UW := uw 872 (by decide +kernel) (by decide +kernel)
theorem u_fl_RX6_41 : (.fieldLink RX6 41 "AislewrightModel" "path" "[I" : Cond) ∈ UW := uw 873 (by decide +kernel) (by decide +kernel)
theorem u_fl_RX6_44 : (.fieldLink RX6 44 "AislewrightModel" "ranked" "[I" : Cond) ∈ UW := uw 874 (by decide +kernel) (by decide +kernel)
theorem u_fl_RX6_47 : (.fieldLink RX6 47 "AislewrightModel" "spots" "[I" : Cond) ∈ UW := uw 875 (by decide +kernel) (by decide +kernel)
theorem u_ml_RL_95 : (.methodLink RL 95 yX6_thrown : Cond) ∈ UW := uw 921 (by decide +kernel) (by decide +kernel)
theorem u_im_yX6_thrown : (.instanceMethod yX6_thrown : Cond) ∈ UW := uw 922 (by decide +kernel) (by decide +kernel)
theorem u_se_yX6_thrown : (.selects RX6 yX6_thrown yX6_thrown : Cond) ∈ UW := uw 923 (by decide +kernel) (by decide +kernel)
theorem u_co_yX6_thrown : (.code yX6_thrown cX6_thrown 1 (some FieldType.int) : Cond) ∈ UW := uw 924 (by decide +kernel) (by decide +kernel)
theorem u_ml_RL_94 : (.methodLink RL 94 yX6_put : Cond) ∈ UW := uw 925 (by decide +kernel) (by decide +kernel)
theorem u_im_yX6_put : (.instanceMethod yX6_put : Cond) ∈ UW := uw 926 (by decide +kernel) (by decide +kernel)
theorem u_se_yX6_put : (.selects RX6 yX6_put yX6_put : Cond) ∈ UW := uw 927 (by decide +kernel) (by decide +kernel)
theorem u_co_yX6_put : (.code yX6_put cX6_put 7 (some FieldType.int) : Cond) ∈ UW := uw 928 (by decide +kernel) (by decide +kernel)
theorem u_ml_RX6_90 : (.methodLink RX6 90 yX6_isProduct : Cond) ∈ UW := uw 929 (by decide +kernel) (by decide +kernel)
theorem u_st_yX6_isProduct : (.static yX6_isProduct : Cond) ∈ UW := uw 930 (by decide +kernel) (by decide +kernel)
theorem u_co_yX6_isProduct : (.code yX6_isProduct cX6_isProduct 1 (some FieldType.boolean) : Cond) ∈ UW := uw 931 (by decide +kernel) (by decide +kernel)
theorem u_ml_RX6_62 : (.methodLink RX6 62 yX6_in : Cond) ∈ UW := uw 932 (by decide +kernel) (by decide +kernel)
theorem u_st_yX6_in : (.static yX6_in : Cond) ∈ UW := uw 933 (by decide +kernel) (by decide +kernel)
theorem u_co_yX6_in : (.code yX6_in cX6_in 3 (some FieldType.boolean) : Cond) ∈ UW := uw 934 (by decide +kernel) (by decide +kernel)
theorem u_ml_RX6_94 : (.methodLink RX6 94 yX6_fails : Cond) ∈ UW := uw 935 (by decide +kernel) (by decide +kernel)
theorem u_im_yX6_fails : (.instanceMethod yX6_fails : Cond) ∈ UW := uw 937 (by decide +kernel) (by decide +kernel)
theorem u_co_yX6_fails : (.code yX6_fails cX6_fails 2 (some FieldType.int) : Cond) ∈ UW := uw 938 (by decide +kernel) (by decide +kernel)
theorem u_ml_RL_101 : (.methodLink RL 101 yX6_layOut : Cond) ∈ UW := uw 939 (by decide +kernel) (by decide +kernel)
theorem u_im_yX6_layOut : (.instanceMethod yX6_layOut : Cond) ∈ UW := uw 940 (by decide +kernel) (by decide +kernel)
theorem u_se_yX6_layOut : (.selects RX6 yX6_layOut yX6_layOut : Cond) ∈ UW := uw 941 (by decide +kernel) (by decide +kernel)
theorem u_co_yX6_layOut : (.code yX6_layOut cX6_layOut 4 (some FieldType.int) : Cond) ∈ UW := uw 942 (by decide +kernel) (by decide +kernel)
theorem u_ml_RX6_101 : (.methodLink RX6 101 yX6_ranks : Cond) ∈ UW := uw 943 (by decide +kernel) (by decide +kernel)
theorem u_im_yX6_ranks : (.instanceMethod yX6_ranks : Cond) ∈ UW := uw 945 (by decide +kernel) (by decide +kernel)
theorem u_co_yX6_ranks : (.code yX6_ranks cX6_ranks 4 (none) : Cond) ∈ UW := uw 946 (by decide +kernel) (by decide +kernel)
theorem u_ml_RX6_98 : (.methodLink RX6 98 yX6_turnoverOf : Cond) ∈ UW := uw 947 (by decide +kernel) (by decide +kernel)
theorem u_im_yX6_turnoverOf : (.instanceMethod yX6_turnoverOf : Cond) ∈ UW := uw 949 (by decide +kernel) (by decide +kernel)
theorem u_co_yX6_turnoverOf : (.code yX6_turnoverOf cX6_turnoverOf 5 (some FieldType.int) : Cond) ∈ UW := uw 950 (by decide +kernel) (by decide +kernel)
theorem u_ml_RX6_105 : (.methodLink RX6 105 yX6_spreads : Cond) ∈ UW := uw 951 (by decide +kernel) (by decide +kernel)
theorem u_im_yX6_spreads : (.instanceMethod yX6_spreads : Cond) ∈ UW := uw 953 (by decide +kernel) (by decide +kernel)
theorem u_co_yX6_spreads : (.code yX6_spreads cX6_spreads 4 (none) : Cond) ∈ UW := uw 954 (by decide +kernel) (by decide +kernel)
theorem u_ml_RX6_72 : (.methodLink RX6 72 yX6_way : Cond) ∈ UW := uw 955 (by decide +kernel) (by decide +kernel)
theorem u_im_yX6_way : (.instanceMethod yX6_way : Cond) ∈ UW := uw 957 (by decide +kernel) (by decide +kernel)
theorem u_co_yX6_way : (.code yX6_way cX6_way 8 (some FieldType.int) : Cond) ∈ UW := uw 958 (by decide +kernel) (by decide +kernel)
theorem u_ml_RL_105 : (.methodLink RL 105 yX6_placeOf : Cond) ∈ UW := uw 959 (by decide +kernel) (by decide +kernel)
theorem u_im_yX6_placeOf : (.instanceMethod yX6_placeOf : Cond) ∈ UW := uw 960 (by decide +kernel) (by decide +kernel)
theorem u_se_yX6_placeOf : (.selects RX6 yX6_placeOf yX6_placeOf : Cond) ∈ UW := uw 961 (by decide +kernel) (by decide +kernel)
theorem u_co_yX6_placeOf : (.code yX6_placeOf cX6_placeOf 2 (some FieldType.int) : Cond) ∈ UW := uw 962 (by decide +kernel) (by decide +kernel)
theorem u_ml_RL_108 : (.methodLink RL 108 yX6_turnover : Cond) ∈ UW := uw 963 (by decide +kernel) (by decide +kernel)
theorem u_im_yX6_turnover : (.instanceMethod yX6_turnover : Cond) ∈ UW := uw 964 (by decide +kernel) (by decide +kernel)
theorem u_se_yX6_turnover : (.selects RX6 yX6_turnover yX6_turnover : Cond) ∈ UW := uw 965 (by decide +kernel) (by decide +kernel)
theorem u_co_yX6_turnover : (.code yX6_turnover cX6_turnover 2 (some FieldType.int) : Cond) ∈ UW := uw 966 (by decide +kernel) (by decide +kernel)
theorem u_ml_RL_112 : (.methodLink RL 112 yX6_distance : Cond) ∈ UW := uw 967 (by decide +kernel) (by decide +kernel)
theorem u_im_yX6_distance : (.instanceMethod yX6_distance : Cond) ∈ UW := uw 968 (by decide +kernel) (by decide +kernel)
theorem u_se_yX6_distance : (.selects RX6 yX6_distance yX6_distance : Cond) ∈ UW := uw 969 (by decide +kernel) (by decide +kernel)
theorem u_co_yX6_distance : (.code yX6_distance cX6_distance 3 (some FieldType.int) : Cond) ∈ UW := uw 970 (by decide +kernel) (by decide +kernel)
theorem u_ml_RL_115 : (.methodLink RL 115 yX6_order : Cond) ∈ UW := uw 971 (by decide +kernel) (by decide +kernel)
theorem u_im_yX6_order : (.instanceMethod yX6_order : Cond) ∈ UW := uw 972 (by decide +kernel) (by decide +kernel)
theorem u_se_yX6_order : (.selects RX6 yX6_order yX6_order : Cond) ∈ UW := uw 973 (by decide +kernel) (by decide +kernel)
theorem u_co_yX6_order : (.code yX6_order cX6_order 2 (some FieldType.int) : Cond) ∈ UW := uw 974 (by decide +kernel) (by decide +kernel)
theorem u_ml_RL_118 : (.methodLink RL 118 yX6_line : Cond) ∈ UW := uw 975 (by decide +kernel) (by decide +kernel)
theorem u_im_yX6_line : (.instanceMethod yX6_line : Cond) ∈ UW := uw 976 (by decide +kernel) (by decide +kernel)
theorem u_se_yX6_line : (.selects RX6 yX6_line yX6_line : Cond) ∈ UW := uw 977 (by decide +kernel) (by decide +kernel)
theorem u_co_yX6_line : (.code yX6_line cX6_line 4 (some FieldType.int) : Cond) ∈ UW := uw 978 (by decide +kernel) (by decide +kernel)
theorem u_ml_RX6_108 : (.methodLink RX6 108 yX6_isOrder : Cond) ∈ UW := uw 979 (by decide +kernel) (by decide +kernel)
theorem u_im_yX6_isOrder : (.instanceMethod yX6_isOrder : Cond) ∈ UW := uw 981 (by decide +kernel) (by decide +kernel)
theorem u_co_yX6_isOrder : (.code yX6_isOrder cX6_isOrder 2 (some FieldType.boolean) : Cond) ∈ UW := uw 982 (by decide +kernel) (by decide +kernel)
theorem u_ml_RX6_111 : (.methodLink RX6 111 yX6_wanted : Cond) ∈ UW := uw 983 (by decide +kernel) (by decide +kernel)
theorem u_im_yX6_wanted : (.instanceMethod yX6_wanted : Cond) ∈ UW := uw 985 (by decide +kernel) (by decide +kernel)
theorem u_co_yX6_wanted : (.code yX6_wanted cX6_wanted 4 (some FieldType.int) : Cond) ∈ UW := uw 986 (by decide +kernel) (by decide +kernel)
theorem u_ml_RL_122 : (.methodLink RL 122 yX6_orders : Cond) ∈ UW := uw 987 (by decide +kernel) (by decide +kernel)
theorem u_im_yX6_orders : (.instanceMethod yX6_orders : Cond) ∈ UW := uw 988 (by decide +kernel) (by decide +kernel)
theorem u_se_yX6_orders : (.selects RX6 yX6_orders yX6_orders : Cond) ∈ UW := uw 989 (by decide +kernel) (by decide +kernel)
theorem u_co_yX6_orders : (.code yX6_orders cX6_orders 1 (some FieldType.int) : Cond) ∈ UW := uw 990 (by decide +kernel) (by decide +kernel)
theorem u_ml_RL_125 : (.methodLink RL 125 yX6_stateOf : Cond) ∈ UW := uw 991 (by decide +kernel) (by decide +kernel)
theorem u_im_yX6_stateOf : (.instanceMethod yX6_stateOf : Cond) ∈ UW := uw 992 (by decide +kernel) (by decide +kernel)
theorem u_se_yX6_stateOf : (.selects RX6 yX6_stateOf yX6_stateOf : Cond) ∈ UW := uw 993 (by decide +kernel) (by decide +kernel)
theorem u_co_yX6_stateOf : (.code yX6_stateOf cX6_stateOf 2 (some FieldType.int) : Cond) ∈ UW := uw 994 (by decide +kernel) (by decide +kernel)
theorem u_ml_RL_128 : (.methodLink RL 128 yX6_lengthAlone : Cond) ∈ UW := uw 995 (by decide +kernel) (by decide +kernel)
theorem u_im_yX6_lengthAlone : (.instanceMethod yX6_lengthAlone : Cond) ∈ UW := uw 996 (by decide +kernel) (by decide +kernel)
theorem u_se_yX6_lengthAlone : (.selects RX6 yX6_lengthAlone yX6_lengthAlone : Cond) ∈ UW := uw 997 (by decide +kernel) (by decide +kernel)
theorem u_co_yX6_lengthAlone : (.code yX6_lengthAlone cX6_lengthAlone 2 (some FieldType.int) : Cond) ∈ UW := uw 998 (by decide +kernel) (by decide +kernel)
theorem u_ml_RX6_114 : (.methodLink RX6 114 yX6_length : Cond) ∈ UW := uw 999 (by decide +kernel) (by decide +kernel)
theorem u_im_yX6_length : (.instanceMethod yX6_length : Cond) ∈ UW := uw 1001 (by decide +kernel) (by decide +kernel)
theorem u_co_yX6_length : (.code yX6_length cX6_length 2 (some FieldType.int) : Cond) ∈ UW := uw 1002 (by decide +kernel) (by decide +kernel)
theorem u_ml_RX6_86 : (.methodLink RX6 86 yX6_layRoute : Cond) ∈ UW := uw 1003 (by decide +kernel) (by decide +kernel)
theorem u_im_yX6_layRoute : (.instanceMethod yX6_layRoute : Cond) ∈ UW := uw 1005 (by decide +kernel) (by decide +kernel)
theorem u_co_yX6_layRoute : (.code yX6_layRoute cX6_layRoute 5 (none) : Cond) ∈ UW := uw 1006 (by decide +kernel) (by decide +kernel)
theorem u_ml_RX6_79 : (.methodLink RX6 79 yX6_wayOn : Cond) ∈ UW := uw 1007 (by decide +kernel) (by decide +kernel)
theorem u_im_yX6_wayOn : (.instanceMethod yX6_wayOn : Cond) ∈ UW := uw 1009 (by decide +kernel) (by decide +kernel)
theorem u_co_yX6_wayOn : (.code yX6_wayOn cX6_wayOn 6 (some FieldType.int) : Cond) ∈ UW := uw 1010 (by decide +kernel) (by decide +kernel)
theorem u_ml_RX6_83 : (.methodLink RX6 83 yX6_step : Cond) ∈ UW := uw 1011 (by decide +kernel) (by decide +kernel)
theorem u_im_yX6_step : (.instanceMethod yX6_step : Cond) ∈ UW := uw 1013 (by decide +kernel) (by decide +kernel)
theorem u_co_yX6_step : (.code yX6_step cX6_step 3 (some FieldType.int) : Cond) ∈ UW := uw 1014 (by decide +kernel) (by decide +kernel)
theorem u_ct_RX6_82 : (.constant RX6 82 (1000000000 : Int32) : Cond) ∈ UW := uw 1015 (by decide +kernel) (by decide +kernel)
theorem u_ml_RL_131 : (.methodLink RL 131 yX6_setCapacity : Cond) ∈ UW := uw 1016 (by decide +kernel) (by decide +kernel)
theorem u_im_yX6_setCapacity : (.instanceMethod yX6_setCapacity : Cond) ∈ UW := uw 1017 (by decide +kernel) (by decide +kernel)
theorem u_se_yX6_setCapacity : (.selects RX6 yX6_setCapacity yX6_setCapacity : Cond) ∈ UW := uw 1018 (by decide +kernel) (by decide +kernel)
theorem u_co_yX6_setCapacity : (.code yX6_setCapacity cX6_setCapacity 4 (some FieldType.int) : Cond) ∈ UW := uw 1019 (by decide +kernel) (by decide +kernel)
theorem u_ml_RL_134 : (.methodLink RL 134 yX6_planWave : Cond) ∈ UW := uw 1020 (by decide +kernel) (by decide +kernel)
theorem u_im_yX6_planWave : (.instanceMethod yX6_planWave : Cond) ∈ UW := uw 1021 (by decide +kernel) (by decide +kernel)
theorem u_se_yX6_planWave : (.selects RX6 yX6_planWave yX6_planWave : Cond) ∈ UW := uw 1022 (by decide +kernel) (by decide +kernel)
theorem u_co_yX6_planWave : (.code yX6_planWave cX6_planWave 4 (some FieldType.int) : Cond) ∈ UW := uw 1023 (by decide +kernel) (by decide +kernel)
theorem u_ml_RX6_126 : (.methodLink RX6 126 yX6_joins : Cond) ∈ UW := uw 1024 (by decide +kernel) (by decide +kernel)
theorem u_im_yX6_joins : (.instanceMethod yX6_joins : Cond) ∈ UW := uw 1026 (by decide +kernel) (by decide +kernel)
theorem u_co_yX6_joins : (.code yX6_joins cX6_joins 7 (some FieldType.boolean) : Cond) ∈ UW := uw 1027 (by decide +kernel) (by decide +kernel)
theorem u_ml_RX6_117 : (.methodLink RX6 117 yX6_countLines : Cond) ∈ UW := uw 1028 (by decide +kernel) (by decide +kernel)
theorem u_im_yX6_countLines : (.instanceMethod yX6_countLines : Cond) ∈ UW := uw 1030 (by decide +kernel) (by decide +kernel)
theorem u_co_yX6_countLines : (.code yX6_countLines cX6_countLines 4 (some FieldType.int) : Cond) ∈ UW := uw 1031 (by decide +kernel) (by decide +kernel)
theorem u_ml_RX6_120 : (.methodLink RX6 120 yX6_productsOf : Cond) ∈ UW := uw 1032 (by decide +kernel) (by decide +kernel)
theorem u_im_yX6_productsOf : (.instanceMethod yX6_productsOf : Cond) ∈ UW := uw 1034 (by decide +kernel) (by decide +kernel)
theorem u_co_yX6_productsOf : (.code yX6_productsOf cX6_productsOf 4 (some FieldType.int) : Cond) ∈ UW := uw 1035 (by decide +kernel) (by decide +kernel)
theorem u_ml_RX6_123 : (.methodLink RX6 123 yX6_closeUp : Cond) ∈ UW := uw 1036 (by decide +kernel) (by decide +kernel)
theorem u_im_yX6_closeUp : (.instanceMethod yX6_closeUp : Cond) ∈ UW := uw 1038 (by decide +kernel) (by decide +kernel)
theorem u_co_yX6_closeUp : (.code yX6_closeUp cX6_closeUp 3 (none) : Cond) ∈ UW := uw 1039 (by decide +kernel) (by decide +kernel)
theorem u_ml_RL_137 : (.methodLink RL 137 yX6_pick : Cond) ∈ UW := uw 1040 (by decide +kernel) (by decide +kernel)
theorem u_im_yX6_pick : (.instanceMethod yX6_pick : Cond) ∈ UW := uw 1041 (by decide +kernel) (by decide +kernel)
theorem u_se_yX6_pick : (.selects RX6 yX6_pick yX6_pick : Cond) ∈ UW := uw 1042 (by decide +kernel) (by decide +kernel)
theorem u_co_yX6_pick : (.code yX6_pick cX6_pick 4 (some FieldType.int) : Cond) ∈ UW := uw 1043 (by decide +kernel) (by decide +kernel)
theorem u_ml_RX6_130 : (.methodLink RX6 130 yX6_isBatch : Cond) ∈ UW := uw 1044 (by decide +kernel) (by decide +kernel)
theorem u_im_yX6_isBatch : (.instanceMethod yX6_isBatch : Cond) ∈ UW := uw 1046 (by decide +kernel) (by decide +kernel)
theorem u_co_yX6_isBatch : (.code yX6_isBatch cX6_isBatch 2 (some FieldType.boolean) : Cond) ∈ UW := uw 1047 (by decide +kernel) (by decide +kernel)
theorem u_ml_RL_141 : (.methodLink RL 141 yX6_batches : Cond) ∈ UW := uw 1048 (by decide +kernel) (by decide +kernel)
theorem u_im_yX6_batches : (.instanceMethod yX6_batches : Cond) ∈ UW := uw 1049 (by decide +kernel) (by decide +kernel)
theorem u_se_yX6_batches : (.selects RX6 yX6_batches yX6_batches : Cond) ∈ UW := uw 1050 (by decide +kernel) (by decide +kernel)
theorem u_co_yX6_batches : (.code yX6_batches cX6_batches 1 (some FieldType.int) : Cond) ∈ UW := uw 1051 (by decide +kernel) (by decide +kernel)
theorem u_ml_RL_144 : (.methodLink RL 144 yX6_batchOf : Cond) ∈ UW := uw 1052 (by decide +kernel) (by decide +kernel)
theorem u_im_yX6_batchOf : (.instanceMethod yX6_batchOf : Cond) ∈ UW := uw 1053 (by decide +kernel) (by decide +kernel)
theorem u_se_yX6_batchOf : (.selects RX6 yX6_batchOf yX6_batchOf : Cond) ∈ UW := uw 1054 (by decide +kernel) (by decide +kernel)
theorem u_co_yX6_batchOf : (.code yX6_batchOf cX6_batchOf 2 (some FieldType.int) : Cond) ∈ UW := uw 1055 (by decide +kernel) (by decide +kernel)
theorem u_ml_RL_147 : (.methodLink RL 147 yX6_linesOf : Cond) ∈ UW := uw 1056 (by decide +kernel) (by decide +kernel)
theorem u_im_yX6_linesOf : (.instanceMethod yX6_linesOf : Cond) ∈ UW := uw 1057 (by decide +kernel) (by decide +kernel)
theorem u_se_yX6_linesOf : (.selects RX6 yX6_linesOf yX6_linesOf : Cond) ∈ UW := uw 1058 (by decide +kernel) (by decide +kernel)
theorem u_co_yX6_linesOf : (.code yX6_linesOf cX6_linesOf 2 (some FieldType.int) : Cond) ∈ UW := uw 1059 (by decide +kernel) (by decide +kernel)
theorem u_ml_RL_150 : (.methodLink RL 150 yX6_lengthOf : Cond) ∈ UW := uw 1060 (by decide +kernel) (by decide +kernel)
theorem u_im_yX6_lengthOf : (.instanceMethod yX6_lengthOf : Cond) ∈ UW := uw 1061 (by decide +kernel) (by decide +kernel)
theorem u_se_yX6_lengthOf : (.selects RX6 yX6_lengthOf yX6_lengthOf : Cond) ∈ UW := uw 1062 (by decide +kernel) (by decide +kernel)
theorem u_co_yX6_lengthOf : (.code yX6_lengthOf cX6_lengthOf 2 (some FieldType.int) : Cond) ∈ UW := uw 1063 (by decide +kernel) (by decide +kernel)
theorem u_ml_RL_153 : (.methodLink RL 153 yX6_lengthByTrying : Cond) ∈ UW := uw 1064 (by decide +kernel) (by decide +kernel)
theorem u_im_yX6_lengthByTrying : (.instanceMethod yX6_lengthByTrying : Cond) ∈ UW := uw 1065 (by decide +kernel) (by decide +kernel)
theorem u_se_yX6_lengthByTrying : (.selects RX6 yX6_lengthByTrying yX6_lengthByTrying : Cond) ∈ UW := uw 1066 (by decide +kernel) (by decide +kernel)
theorem u_co_yX6_lengthByTrying : (.code yX6_lengthByTrying cX6_lengthByTrying 3 (some FieldType.int) : Cond) ∈ UW := uw 1067 (by decide +kernel) (by decide +kernel)
theorem u_ml_RL_156 : (.methodLink RL 156 yX6_lengthThrough : Cond) ∈ UW := uw 1068 (by decide +kernel) (by decide +kernel)
theorem u_im_yX6_lengthThrough : (.instanceMethod yX6_lengthThrough : Cond) ∈ UW := uw 1069 (by decide +kernel) (by decide +kernel)
theorem u_se_yX6_lengthThrough : (.selects RX6 yX6_lengthThrough yX6_lengthThrough : Cond) ∈ UW := uw 1070 (by decide +kernel) (by decide +kernel)
theorem u_co_yX6_lengthThrough : (.code yX6_lengthThrough cX6_lengthThrough 5 (some FieldType.int) : Cond) ∈ UW := uw 1071 (by decide +kernel) (by decide +kernel)
theorem u_ml_RX6_140 : (.methodLink RX6 140 yX6_farthest : Cond) ∈ UW := uw 1072 (by decide +kernel) (by decide +kernel)
theorem u_im_yX6_farthest : (.instanceMethod yX6_farthest : Cond) ∈ UW := uw 1074 (by decide +kernel) (by decide +kernel)
theorem u_co_yX6_farthest : (.code yX6_farthest cX6_farthest 7 (some FieldType.int) : Cond) ∈ UW := uw 1075 (by decide +kernel) (by decide +kernel)
theorem u_ml_RL_159 : (.methodLink RL 159 yX6_stops : Cond) ∈ UW := uw 1076 (by decide +kernel) (by decide +kernel)
theorem u_im_yX6_stops : (.instanceMethod yX6_stops : Cond) ∈ UW := uw 1077 (by decide +kernel) (by decide +kernel)
theorem u_se_yX6_stops : (.selects RX6 yX6_stops yX6_stops : Cond) ∈ UW := uw 1078 (by decide +kernel) (by decide +kernel)
theorem u_co_yX6_stops : (.code yX6_stops cX6_stops 2 (some FieldType.int) : Cond) ∈ UW := uw 1079 (by decide +kernel) (by decide +kernel)
theorem u_ml_RL_162 : (.methodLink RL 162 yX6_stopAt : Cond) ∈ UW := uw 1080 (by decide +kernel) (by decide +kernel)
theorem u_im_yX6_stopAt : (.instanceMethod yX6_stopAt : Cond) ∈ UW := uw 1081 (by decide +kernel) (by decide +kernel)
theorem u_se_yX6_stopAt : (.selects RX6 yX6_stopAt yX6_stopAt : Cond) ∈ UW := uw 1082 (by decide +kernel) (by decide +kernel)
theorem u_co_yX6_stopAt : (.code yX6_stopAt cX6_stopAt 3 (some FieldType.int) : Cond) ∈ UW := uw 1083 (by decide +kernel) (by decide +kernel)
theorem u_ml_RX6_143 : (.methodLink RX6 143 yX6_layPath : Cond) ∈ UW := uw 1084 (by decide +kernel) (by decide +kernel)
theorem u_im_yX6_layPath : (.instanceMethod yX6_layPath : Cond) ∈ UW := uw 1086 (by decide +kernel) (by decide +kernel)
theorem u_co_yX6_layPath : (.code yX6_layPath cX6_layPath 8 (none) : Cond) ∈ UW := uw 1087 (by decide +kernel) (by decide +kernel)
theorem u_ml_RL_165 : (.methodLink RL 165 yX6_inAisle : Cond) ∈ UW := uw 1088 (by decide +kernel) (by decide +kernel)
theorem u_im_yX6_inAisle : (.instanceMethod yX6_inAisle : Cond) ∈ UW := uw 1089 (by decide +kernel) (by decide +kernel)
theorem u_se_yX6_inAisle : (.selects RX6 yX6_inAisle yX6_inAisle : Cond) ∈ UW := uw 1090 (by decide +kernel) (by decide +kernel)
theorem u_co_yX6_inAisle : (.code yX6_inAisle cX6_inAisle 4 (some FieldType.int) : Cond) ∈ UW := uw 1091 (by decide +kernel) (by decide +kernel)
theorem u_ml_RL_169 : (.methodLink RL 169 yX6_walked : Cond) ∈ UW := uw 1092 (by decide +kernel) (by decide +kernel)
theorem u_im_yX6_walked : (.instanceMethod yX6_walked : Cond) ∈ UW := uw 1093 (by decide +kernel) (by decide +kernel)
theorem u_se_yX6_walked : (.selects RX6 yX6_walked yX6_walked : Cond) ∈ UW := uw 1094 (by decide +kernel) (by decide +kernel)
theorem u_co_yX6_walked : (.code yX6_walked cX6_walked 1 (some FieldType.int) : Cond) ∈ UW := uw 1095 (by decide +kernel) (by decide +kernel)
theorem u_ml_RL_174 : (.methodLink RL 174 yX6_share : Cond) ∈ UW := uw 1096 (by decide +kernel) (by decide +kernel)
theorem u_im_yX6_share : (.instanceMethod yX6_share : Cond) ∈ UW := uw 1097 (by decide +kernel) (by decide +kernel)
theorem u_se_yX6_share : (.selects RX6 yX6_share yX6_share : Cond) ∈ UW := uw 1098 (by decide +kernel) (by decide +kernel)
theorem u_co_yX6_share : (.code yX6_share cX6_share 1 (some FieldType.double) : Cond) ∈ UW := uw 1099 (by decide +kernel) (by decide +kernel)
theorem u_ac_1100 : (.arrayClass (FieldType.long) : Cond) ∈ UW := uw 1100 (by decide +kernel) (by decide +kernel)
theorem n_ca_RX5_java_lang_Object : (.castable RX5 "java/lang/Object" : Cond) ∈ UN := un 1102 (by decide +kernel) (by decide +kernel)
theorem n_ca_RX3_java_lang_Object : (.castable RX3 "java/lang/Object" : Cond) ∈ UN := un 1103 (by decide +kernel) (by decide +kernel)
theorem n_ca_RX2_java_lang_Object : (.castable RX2 "java/lang/Object" : Cond) ∈ UN := un 1104 (by decide +kernel) (by decide +kernel)
theorem n_ca_RX4_java_lang_Object : (.castable RX4 "java/lang/Object" : Cond) ∈ UN := un 1105 (by decide +kernel) (by decide +kernel)
theorem n_ca_RJx4a65c_java_lang_Object : (.castable RJx4a65c "java/lang/Object" : Cond) ∈ UN := un 1106 (by decide +kernel) (by decide +kernel)
theorem n_ca_RX6_java_lang_Object : (.castable RX6 "java/lang/Object" : Cond) ∈ UN := un 1107 (by decide +kernel) (by decide +kernel)
theorem n_ca_java_lang_IndexOutOfBoundsException_java_lang_Object : (.castable "java/lang/IndexOutOfBoundsException" "java/lang/Object" : Cond) ∈ UN := un 1108 (by decide +kernel) (by decide +kernel)
theorem n_ca_java_lang_IllegalStateException_java_lang_Object : (.castable "java/lang/IllegalStateException" "java/lang/Object" : Cond) ∈ UN := un 1109 (by decide +kernel) (by decide +kernel)
theorem n_ca_java_lang_IllegalArgumentException_java_lang_Object : (.castable "java/lang/IllegalArgumentException" "java/lang/Object" : Cond) ∈ UN := un 1110 (by decide +kernel) (by decide +kernel)
theorem n_ca_RX1_java_lang_Object : (.castable RX1 "java/lang/Object" : Cond) ∈ UN := un 1111 (by decide +kernel) (by decide +kernel)
theorem n_ca_RX0_java_lang_Object : (.castable RX0 "java/lang/Object" : Cond) ∈ UN := un 1112 (by decide +kernel) (by decide +kernel)
theorem n_ca_java_lang_Throwable_java_lang_Object : (.castable "java/lang/Throwable" "java/lang/Object" : Cond) ∈ UN := un 1113 (by decide +kernel) (by decide +kernel)
theorem n_ca_RJ0_java_lang_Object : (.castable RJ0 "java/lang/Object" : Cond) ∈ UN := un 1114 (by decide +kernel) (by decide +kernel)
theorem n_ca_AI_java_lang_Object : (.castable "[I" "java/lang/Object" : Cond) ∈ UN := un 1118 (by decide +kernel) (by decide +kernel)
theorem n_ca_AAI_java_lang_Object : (.castable "[[I" "java/lang/Object" : Cond) ∈ UN := un 1119 (by decide +kernel) (by decide +kernel)
theorem n_ca_AB_java_lang_Object : (.castable "[B" "java/lang/Object" : Cond) ∈ UN := un 1120 (by decide +kernel) (by decide +kernel)
theorem n_ca_ALjava_lang_Object_java_lang_Object : (.castable "[Ljava/lang/Object;" "java/lang/Object" : Cond) ∈ UN := un 1121 (by decide +kernel) (by decide +kernel)
theorem n_ca_AJ_java_lang_Object : (.castable "[J" "java/lang/Object" : Cond) ∈ UN := un 1122 (by decide +kernel) (by decide +kernel)
theorem hd_yX0_init : yX0_init.cls = RX0 ∧ yX0_init.cls ≠ "java/lang/invoke/MethodHandle" ∧ yX0_init.cls ≠ "java/lang/invoke/VarHandle" ∧ (parseMethodDescriptor yX0_init.desc).map (fun d => d.parameters.length) = some 4 := by decide +kernel
theorem hd_yX0_holds : yX0_holds.cls = RX0 ∧ yX0_holds.cls ≠ "java/lang/invoke/MethodHandle" ∧ yX0_holds.cls ≠ "java/lang/invoke/VarHandle" ∧ (parseMethodDescriptor yX0_holds.desc).map (fun d => d.parameters.length) = some 1 := by decide +kernel
theorem hd_yX0_comesInto : yX0_comesInto.cls = RX0 ∧ yX0_comesInto.cls ≠ "java/lang/invoke/MethodHandle" ∧ yX0_comesInto.cls ≠ "java/lang/invoke/VarHandle" ∧ (parseMethodDescriptor yX0_comesInto.desc).map (fun d => d.parameters.length) = some 1 := by decide +kernel
theorem hd_yX0_absorb : yX0_absorb.cls = RX0 ∧ yX0_absorb.cls ≠ "java/lang/invoke/MethodHandle" ∧ yX0_absorb.cls ≠ "java/lang/invoke/VarHandle" ∧ (parseMethodDescriptor yX0_absorb.desc).map (fun d => d.parameters.length) = some 2 := by decide +kernel
theorem hd_yX1_init : yX1_init.cls = RX1 ∧ yX1_init.cls ≠ "java/lang/invoke/MethodHandle" ∧ yX1_init.cls ≠ "java/lang/invoke/VarHandle" ∧ (parseMethodDescriptor yX1_init.desc).map (fun d => d.parameters.length) = some 1 := by decide +kernel
theorem hd_yX1_asksFor : yX1_asksFor.cls = RX1 ∧ yX1_asksFor.cls ≠ "java/lang/invoke/MethodHandle" ∧ yX1_asksFor.cls ≠ "java/lang/invoke/VarHandle" ∧ (parseMethodDescriptor yX1_asksFor.desc).map (fun d => d.parameters.length) = some 1 := by decide +kernel
theorem hd_yX1_countLines : yX1_countLines.cls = RX1 ∧ yX1_countLines.cls ≠ "java/lang/invoke/MethodHandle" ∧ yX1_countLines.cls ≠ "java/lang/invoke/VarHandle" ∧ (parseMethodDescriptor yX1_countLines.desc).map (fun d => d.parameters.length) = some 0 := by decide +kernel
theorem hd_yX1_addLine : yX1_addLine.cls = RX1 ∧ yX1_addLine.cls ≠ "java/lang/invoke/MethodHandle" ∧ yX1_addLine.cls ≠ "java/lang/invoke/VarHandle" ∧ (parseMethodDescriptor yX1_addLine.desc).map (fun d => d.parameters.length) = some 2 := by decide +kernel
theorem hd_yX1_isTakenAt : yX1_isTakenAt.cls = RX1 ∧ yX1_isTakenAt.cls ≠ "java/lang/invoke/MethodHandle" ∧ yX1_isTakenAt.cls ≠ "java/lang/invoke/VarHandle" ∧ (parseMethodDescriptor yX1_isTakenAt.desc).map (fun d => d.parameters.length) = some 1 := by decide +kernel
theorem hd_yX2_init : yX2_init.cls = RX2 ∧ yX2_init.cls ≠ "java/lang/invoke/MethodHandle" ∧ yX2_init.cls ≠ "java/lang/invoke/VarHandle" ∧ (parseMethodDescriptor yX2_init.desc).map (fun d => d.parameters.length) = some 1 := by decide +kernel
theorem hd_yX2_leastLength : yX2_leastLength.cls = RX2 ∧ yX2_leastLength.cls ≠ "java/lang/invoke/MethodHandle" ∧ yX2_leastLength.cls ≠ "java/lang/invoke/VarHandle" ∧ (parseMethodDescriptor yX2_leastLength.desc).map (fun d => d.parameters.length) = some 1 := by decide +kernel
theorem hd_yX2_bestRoute : yX2_bestRoute.cls = RX2 ∧ yX2_bestRoute.cls ≠ "java/lang/invoke/MethodHandle" ∧ yX2_bestRoute.cls ≠ "java/lang/invoke/VarHandle" ∧ (parseMethodDescriptor yX2_bestRoute.desc).map (fun d => d.parameters.length) = some 1 := by decide +kernel
theorem hd_yX2_leastByTrying : yX2_leastByTrying.cls = RX2 ∧ yX2_leastByTrying.cls ≠ "java/lang/invoke/MethodHandle" ∧ yX2_leastByTrying.cls ≠ "java/lang/invoke/VarHandle" ∧ (parseMethodDescriptor yX2_leastByTrying.desc).map (fun d => d.parameters.length) = some 1 := by decide +kernel
theorem hd_yX2_throughAisles : yX2_throughAisles.cls = RX2 ∧ yX2_throughAisles.cls ≠ "java/lang/invoke/MethodHandle" ∧ yX2_throughAisles.cls ≠ "java/lang/invoke/VarHandle" ∧ (parseMethodDescriptor yX2_throughAisles.desc).map (fun d => d.parameters.length) = some 1 := by decide +kernel
theorem hd_yX2_everyPlace : yX2_everyPlace.cls = RX2 ∧ yX2_everyPlace.cls ≠ "java/lang/invoke/MethodHandle" ∧ yX2_everyPlace.cls ≠ "java/lang/invoke/VarHandle" ∧ (parseMethodDescriptor yX2_everyPlace.desc).map (fun d => d.parameters.length) = some 0 := by decide +kernel
theorem hd_yX2_countAisles : yX2_countAisles.cls = RX2 ∧ yX2_countAisles.cls ≠ "java/lang/invoke/MethodHandle" ∧ yX2_countAisles.cls ≠ "java/lang/invoke/VarHandle" ∧ (parseMethodDescriptor yX2_countAisles.desc).map (fun d => d.parameters.length) = some 0 := by decide +kernel
theorem hd_yX2_gather : yX2_gather.cls = RX2 ∧ yX2_gather.cls ≠ "java/lang/invoke/MethodHandle" ∧ yX2_gather.cls ≠ "java/lang/invoke/VarHandle" ∧ (parseMethodDescriptor yX2_gather.desc).map (fun d => d.parameters.length) = some 1 := by decide +kernel
theorem hd_yX2_insertPlace : yX2_insertPlace.cls = RX2 ∧ yX2_insertPlace.cls ≠ "java/lang/invoke/MethodHandle" ∧ yX2_insertPlace.cls ≠ "java/lang/invoke/VarHandle" ∧ (parseMethodDescriptor yX2_insertPlace.desc).map (fun d => d.parameters.length) = some 1 := by decide +kernel
theorem hd_yX2_fillOnward : yX2_fillOnward.cls = RX2 ∧ yX2_fillOnward.cls ≠ "java/lang/invoke/MethodHandle" ∧ yX2_fillOnward.cls ≠ "java/lang/invoke/VarHandle" ∧ (parseMethodDescriptor yX2_fillOnward.desc).map (fun d => d.parameters.length) = some 0 := by decide +kernel
theorem hd_yX2_leastOnward : yX2_leastOnward.cls = RX2 ∧ yX2_leastOnward.cls ≠ "java/lang/invoke/MethodHandle" ∧ yX2_leastOnward.cls ≠ "java/lang/invoke/VarHandle" ∧ (parseMethodDescriptor yX2_leastOnward.desc).map (fun d => d.parameters.length) = some 2 := by decide +kernel
theorem hd_yX2_lengthBy : yX2_lengthBy.cls = RX2 ∧ yX2_lengthBy.cls ≠ "java/lang/invoke/MethodHandle" ∧ yX2_lengthBy.cls ≠ "java/lang/invoke/VarHandle" ∧ (parseMethodDescriptor yX2_lengthBy.desc).map (fun d => d.parameters.length) = some 3 := by decide +kernel
theorem hd_yX2_bestNext : yX2_bestNext.cls = RX2 ∧ yX2_bestNext.cls ≠ "java/lang/invoke/MethodHandle" ∧ yX2_bestNext.cls ≠ "java/lang/invoke/VarHandle" ∧ (parseMethodDescriptor yX2_bestNext.desc).map (fun d => d.parameters.length) = some 2 := by decide +kernel
theorem hd_yX2_tryFrom : yX2_tryFrom.cls = RX2 ∧ yX2_tryFrom.cls ≠ "java/lang/invoke/MethodHandle" ∧ yX2_tryFrom.cls ≠ "java/lang/invoke/VarHandle" ∧ (parseMethodDescriptor yX2_tryFrom.desc).map (fun d => d.parameters.length) = some 6 := by decide +kernel
theorem hd_yX3_init : yX3_init.cls = RX3 ∧ yX3_init.cls ≠ "java/lang/invoke/MethodHandle" ∧ yX3_init.cls ≠ "java/lang/invoke/VarHandle" ∧ (parseMethodDescriptor yX3_init.desc).map (fun d => d.parameters.length) = some 3 := by decide +kernel
theorem hd_yX3_hasAisle : yX3_hasAisle.cls = RX3 ∧ yX3_hasAisle.cls ≠ "java/lang/invoke/MethodHandle" ∧ yX3_hasAisle.cls ≠ "java/lang/invoke/VarHandle" ∧ (parseMethodDescriptor yX3_hasAisle.desc).map (fun d => d.parameters.length) = some 1 := by decide +kernel
theorem hd_yX3_hasPosition : yX3_hasPosition.cls = RX3 ∧ yX3_hasPosition.cls ≠ "java/lang/invoke/MethodHandle" ∧ yX3_hasPosition.cls ≠ "java/lang/invoke/VarHandle" ∧ (parseMethodDescriptor yX3_hasPosition.desc).map (fun d => d.parameters.length) = some 1 := by decide +kernel
theorem hd_yX3_depth : yX3_depth.cls = RX3 ∧ yX3_depth.cls ≠ "java/lang/invoke/MethodHandle" ∧ yX3_depth.cls ≠ "java/lang/invoke/VarHandle" ∧ (parseMethodDescriptor yX3_depth.desc).map (fun d => d.parameters.length) = some 0 := by decide +kernel
theorem hd_yX3_productAt : yX3_productAt.cls = RX3 ∧ yX3_productAt.cls ≠ "java/lang/invoke/MethodHandle" ∧ yX3_productAt.cls ≠ "java/lang/invoke/VarHandle" ∧ (parseMethodDescriptor yX3_productAt.desc).map (fun d => d.parameters.length) = some 1 := by decide +kernel
theorem hd_yX3_move : yX3_move.cls = RX3 ∧ yX3_move.cls ≠ "java/lang/invoke/MethodHandle" ∧ yX3_move.cls ≠ "java/lang/invoke/VarHandle" ∧ (parseMethodDescriptor yX3_move.desc).map (fun d => d.parameters.length) = some 2 := by decide +kernel
theorem hd_yX3_between : yX3_between.cls = RX3 ∧ yX3_between.cls ≠ "java/lang/invoke/MethodHandle" ∧ yX3_between.cls ≠ "java/lang/invoke/VarHandle" ∧ (parseMethodDescriptor yX3_between.desc).map (fun d => d.parameters.length) = some 2 := by decide +kernel
theorem hd_yX3_addTurnover : yX3_addTurnover.cls = RX3 ∧ yX3_addTurnover.cls ≠ "java/lang/invoke/MethodHandle" ∧ yX3_addTurnover.cls ≠ "java/lang/invoke/VarHandle" ∧ (parseMethodDescriptor yX3_addTurnover.desc).map (fun d => d.parameters.length) = some 1 := by decide +kernel
theorem hd_yX3_rearrange : yX3_rearrange.cls = RX3 ∧ yX3_rearrange.cls ≠ "java/lang/invoke/MethodHandle" ∧ yX3_rearrange.cls ≠ "java/lang/invoke/VarHandle" ∧ (parseMethodDescriptor yX3_rearrange.desc).map (fun d => d.parameters.length) = some 0 := by decide +kernel
theorem hd_yX3_insertPlace : yX3_insertPlace.cls = RX3 ∧ yX3_insertPlace.cls ≠ "java/lang/invoke/MethodHandle" ∧ yX3_insertPlace.cls ≠ "java/lang/invoke/VarHandle" ∧ (parseMethodDescriptor yX3_insertPlace.desc).map (fun d => d.parameters.length) = some 2 := by decide +kernel
theorem hd_yX3_isNearer : yX3_isNearer.cls = RX3 ∧ yX3_isNearer.cls ≠ "java/lang/invoke/MethodHandle" ∧ yX3_isNearer.cls ≠ "java/lang/invoke/VarHandle" ∧ (parseMethodDescriptor yX3_isNearer.desc).map (fun d => d.parameters.length) = some 2 := by decide +kernel
theorem hd_yX3_insertProduct : yX3_insertProduct.cls = RX3 ∧ yX3_insertProduct.cls ≠ "java/lang/invoke/MethodHandle" ∧ yX3_insertProduct.cls ≠ "java/lang/invoke/VarHandle" ∧ (parseMethodDescriptor yX3_insertProduct.desc).map (fun d => d.parameters.length) = some 2 := by decide +kernel
theorem hd_yX4_init : yX4_init.cls = RX4 ∧ yX4_init.cls ≠ "java/lang/invoke/MethodHandle" ∧ yX4_init.cls ≠ "java/lang/invoke/VarHandle" ∧ (parseMethodDescriptor yX4_init.desc).map (fun d => d.parameters.length) = some 1 := by decide +kernel
theorem hd_yX4_isOn : yX4_isOn.cls = RX4 ∧ yX4_isOn.cls ≠ "java/lang/invoke/MethodHandle" ∧ yX4_isOn.cls ≠ "java/lang/invoke/VarHandle" ∧ (parseMethodDescriptor yX4_isOn.desc).map (fun d => d.parameters.length) = some 0 := by decide +kernel
theorem hd_yX4_size : yX4_size.cls = RX4 ∧ yX4_size.cls ≠ "java/lang/invoke/MethodHandle" ∧ yX4_size.cls ≠ "java/lang/invoke/VarHandle" ∧ (parseMethodDescriptor yX4_size.desc).map (fun d => d.parameters.length) = some 0 := by decide +kernel
theorem hd_yX4_take : yX4_take.cls = RX4 ∧ yX4_take.cls ≠ "java/lang/invoke/MethodHandle" ∧ yX4_take.cls ≠ "java/lang/invoke/VarHandle" ∧ (parseMethodDescriptor yX4_take.desc).map (fun d => d.parameters.length) = some 2 := by decide +kernel
theorem hd_yX4_join : yX4_join.cls = RX4 ∧ yX4_join.cls ≠ "java/lang/invoke/MethodHandle" ∧ yX4_join.cls ≠ "java/lang/invoke/VarHandle" ∧ (parseMethodDescriptor yX4_join.desc).map (fun d => d.parameters.length) = some 1 := by decide +kernel
theorem hd_yX4_noteSaving : yX4_noteSaving.cls = RX4 ∧ yX4_noteSaving.cls ≠ "java/lang/invoke/MethodHandle" ∧ yX4_noteSaving.cls ≠ "java/lang/invoke/VarHandle" ∧ (parseMethodDescriptor yX4_noteSaving.desc).map (fun d => d.parameters.length) = some 3 := by decide +kernel
theorem hd_yX4_savingOf : yX4_savingOf.cls = RX4 ∧ yX4_savingOf.cls ≠ "java/lang/invoke/MethodHandle" ∧ yX4_savingOf.cls ≠ "java/lang/invoke/VarHandle" ∧ (parseMethodDescriptor yX4_savingOf.desc).map (fun d => d.parameters.length) = some 2 := by decide +kernel
theorem hd_yX4_joinBestPair : yX4_joinBestPair.cls = RX4 ∧ yX4_joinBestPair.cls ≠ "java/lang/invoke/MethodHandle" ∧ yX4_joinBestPair.cls ≠ "java/lang/invoke/VarHandle" ∧ (parseMethodDescriptor yX4_joinBestPair.desc).map (fun d => d.parameters.length) = some 0 := by decide +kernel
theorem hd_yX4_drop : yX4_drop.cls = RX4 ∧ yX4_drop.cls ≠ "java/lang/invoke/MethodHandle" ∧ yX4_drop.cls ≠ "java/lang/invoke/VarHandle" ∧ (parseMethodDescriptor yX4_drop.desc).map (fun d => d.parameters.length) = some 1 := by decide +kernel
theorem hd_yX4_batchWith : yX4_batchWith.cls = RX4 ∧ yX4_batchWith.cls ≠ "java/lang/invoke/MethodHandle" ∧ yX4_batchWith.cls ≠ "java/lang/invoke/VarHandle" ∧ (parseMethodDescriptor yX4_batchWith.desc).map (fun d => d.parameters.length) = some 1 := by decide +kernel
theorem hd_yX4_countIn : yX4_countIn.cls = RX4 ∧ yX4_countIn.cls ≠ "java/lang/invoke/MethodHandle" ∧ yX4_countIn.cls ≠ "java/lang/invoke/VarHandle" ∧ (parseMethodDescriptor yX4_countIn.desc).map (fun d => d.parameters.length) = some 1 := by decide +kernel
theorem hd_yX5_init : yX5_init.cls = RX5 ∧ yX5_init.cls ≠ "java/lang/invoke/MethodHandle" ∧ yX5_init.cls ≠ "java/lang/invoke/VarHandle" ∧ (parseMethodDescriptor yX5_init.desc).map (fun d => d.parameters.length) = some 3 := by decide +kernel
theorem hd_yX5_put : yX5_put.cls = RX5 ∧ yX5_put.cls ≠ "java/lang/invoke/MethodHandle" ∧ yX5_put.cls ≠ "java/lang/invoke/VarHandle" ∧ (parseMethodDescriptor yX5_put.desc).map (fun d => d.parameters.length) = some 3 := by decide +kernel
theorem hd_yX5_layOut : yX5_layOut.cls = RX5 ∧ yX5_layOut.cls ≠ "java/lang/invoke/MethodHandle" ∧ yX5_layOut.cls ≠ "java/lang/invoke/VarHandle" ∧ (parseMethodDescriptor yX5_layOut.desc).map (fun d => d.parameters.length) = some 0 := by decide +kernel
theorem hd_yX5_placeOf : yX5_placeOf.cls = RX5 ∧ yX5_placeOf.cls ≠ "java/lang/invoke/MethodHandle" ∧ yX5_placeOf.cls ≠ "java/lang/invoke/VarHandle" ∧ (parseMethodDescriptor yX5_placeOf.desc).map (fun d => d.parameters.length) = some 1 := by decide +kernel
theorem hd_yX5_turnover : yX5_turnover.cls = RX5 ∧ yX5_turnover.cls ≠ "java/lang/invoke/MethodHandle" ∧ yX5_turnover.cls ≠ "java/lang/invoke/VarHandle" ∧ (parseMethodDescriptor yX5_turnover.desc).map (fun d => d.parameters.length) = some 1 := by decide +kernel
theorem hd_yX5_distance : yX5_distance.cls = RX5 ∧ yX5_distance.cls ≠ "java/lang/invoke/MethodHandle" ∧ yX5_distance.cls ≠ "java/lang/invoke/VarHandle" ∧ (parseMethodDescriptor yX5_distance.desc).map (fun d => d.parameters.length) = some 2 := by decide +kernel
theorem hd_yX5_order : yX5_order.cls = RX5 ∧ yX5_order.cls ≠ "java/lang/invoke/MethodHandle" ∧ yX5_order.cls ≠ "java/lang/invoke/VarHandle" ∧ (parseMethodDescriptor yX5_order.desc).map (fun d => d.parameters.length) = some 1 := by decide +kernel
theorem hd_yX5_line : yX5_line.cls = RX5 ∧ yX5_line.cls ≠ "java/lang/invoke/MethodHandle" ∧ yX5_line.cls ≠ "java/lang/invoke/VarHandle" ∧ (parseMethodDescriptor yX5_line.desc).map (fun d => d.parameters.length) = some 3 := by decide +kernel
theorem hd_yX5_orders : yX5_orders.cls = RX5 ∧ yX5_orders.cls ≠ "java/lang/invoke/MethodHandle" ∧ yX5_orders.cls ≠ "java/lang/invoke/VarHandle" ∧ (parseMethodDescriptor yX5_orders.desc).map (fun d => d.parameters.length) = some 0 := by decide +kernel
theorem hd_yX5_stateOf : yX5_stateOf.cls = RX5 ∧ yX5_stateOf.cls ≠ "java/lang/invoke/MethodHandle" ∧ yX5_stateOf.cls ≠ "java/lang/invoke/VarHandle" ∧ (parseMethodDescriptor yX5_stateOf.desc).map (fun d => d.parameters.length) = some 1 := by decide +kernel
theorem hd_yX5_lengthAlone : yX5_lengthAlone.cls = RX5 ∧ yX5_lengthAlone.cls ≠ "java/lang/invoke/MethodHandle" ∧ yX5_lengthAlone.cls ≠ "java/lang/invoke/VarHandle" ∧ (parseMethodDescriptor yX5_lengthAlone.desc).map (fun d => d.parameters.length) = some 1 := by decide +kernel
theorem hd_yX5_setCapacity : yX5_setCapacity.cls = RX5 ∧ yX5_setCapacity.cls ≠ "java/lang/invoke/MethodHandle" ∧ yX5_setCapacity.cls ≠ "java/lang/invoke/VarHandle" ∧ (parseMethodDescriptor yX5_setCapacity.desc).map (fun d => d.parameters.length) = some 1 := by decide +kernel
theorem hd_yX5_planWave : yX5_planWave.cls = RX5 ∧ yX5_planWave.cls ≠ "java/lang/invoke/MethodHandle" ∧ yX5_planWave.cls ≠ "java/lang/invoke/VarHandle" ∧ (parseMethodDescriptor yX5_planWave.desc).map (fun d => d.parameters.length) = some 1 := by decide +kernel
theorem hd_yX5_pick : yX5_pick.cls = RX5 ∧ yX5_pick.cls ≠ "java/lang/invoke/MethodHandle" ∧ yX5_pick.cls ≠ "java/lang/invoke/VarHandle" ∧ (parseMethodDescriptor yX5_pick.desc).map (fun d => d.parameters.length) = some 1 := by decide +kernel
theorem hd_yX5_batches : yX5_batches.cls = RX5 ∧ yX5_batches.cls ≠ "java/lang/invoke/MethodHandle" ∧ yX5_batches.cls ≠ "java/lang/invoke/VarHandle" ∧ (parseMethodDescriptor yX5_batches.desc).map (fun d => d.parameters.length) = some 0 := by decide +kernel
theorem hd_yX5_batchOf : yX5_batchOf.cls = RX5 ∧ yX5_batchOf.cls ≠ "java/lang/invoke/MethodHandle" ∧ yX5_batchOf.cls ≠ "java/lang/invoke/VarHandle" ∧ (parseMethodDescriptor yX5_batchOf.desc).map (fun d => d.parameters.length) = some 1 := by decide +kernel
theorem hd_yX5_linesOf : yX5_linesOf.cls = RX5 ∧ yX5_linesOf.cls ≠ "java/lang/invoke/MethodHandle" ∧ yX5_linesOf.cls ≠ "java/lang/invoke/VarHandle" ∧ (parseMethodDescriptor yX5_linesOf.desc).map (fun d => d.parameters.length) = some 1 := by decide +kernel
theorem hd_yX5_lengthOf : yX5_lengthOf.cls = RX5 ∧ yX5_lengthOf.cls ≠ "java/lang/invoke/MethodHandle" ∧ yX5_lengthOf.cls ≠ "java/lang/invoke/VarHandle" ∧ (parseMethodDescriptor yX5_lengthOf.desc).map (fun d => d.parameters.length) = some 1 := by decide +kernel
theorem hd_yX5_lengthByTrying : yX5_lengthByTrying.cls = RX5 ∧ yX5_lengthByTrying.cls ≠ "java/lang/invoke/MethodHandle" ∧ yX5_lengthByTrying.cls ≠ "java/lang/invoke/VarHandle" ∧ (parseMethodDescriptor yX5_lengthByTrying.desc).map (fun d => d.parameters.length) = some 1 := by decide +kernel
theorem hd_yX5_lengthThrough : yX5_lengthThrough.cls = RX5 ∧ yX5_lengthThrough.cls ≠ "java/lang/invoke/MethodHandle" ∧ yX5_lengthThrough.cls ≠ "java/lang/invoke/VarHandle" ∧ (parseMethodDescriptor yX5_lengthThrough.desc).map (fun d => d.parameters.length) = some 1 := by decide +kernel
theorem hd_yX5_stops : yX5_stops.cls = RX5 ∧ yX5_stops.cls ≠ "java/lang/invoke/MethodHandle" ∧ yX5_stops.cls ≠ "java/lang/invoke/VarHandle" ∧ (parseMethodDescriptor yX5_stops.desc).map (fun d => d.parameters.length) = some 1 := by decide +kernel
theorem hd_yX5_stopAt : yX5_stopAt.cls = RX5 ∧ yX5_stopAt.cls ≠ "java/lang/invoke/MethodHandle" ∧ yX5_stopAt.cls ≠ "java/lang/invoke/VarHandle" ∧ (parseMethodDescriptor yX5_stopAt.desc).map (fun d => d.parameters.length) = some 2 := by decide +kernel
theorem hd_yX5_inAisle : yX5_inAisle.cls = RX5 ∧ yX5_inAisle.cls ≠ "java/lang/invoke/MethodHandle" ∧ yX5_inAisle.cls ≠ "java/lang/invoke/VarHandle" ∧ (parseMethodDescriptor yX5_inAisle.desc).map (fun d => d.parameters.length) = some 1 := by decide +kernel
theorem hd_yX5_walked : yX5_walked.cls = RX5 ∧ yX5_walked.cls ≠ "java/lang/invoke/MethodHandle" ∧ yX5_walked.cls ≠ "java/lang/invoke/VarHandle" ∧ (parseMethodDescriptor yX5_walked.desc).map (fun d => d.parameters.length) = some 0 := by decide +kernel
theorem hd_yX5_share : yX5_share.cls = RX5 ∧ yX5_share.cls ≠ "java/lang/invoke/MethodHandle" ∧ yX5_share.cls ≠ "java/lang/invoke/VarHandle" ∧ (parseMethodDescriptor yX5_share.desc).map (fun d => d.parameters.length) = some 0 := by decide +kernel
theorem hd_yX5_within : yX5_within.cls = RX5 ∧ yX5_within.cls ≠ "java/lang/invoke/MethodHandle" ∧ yX5_within.cls ≠ "java/lang/invoke/VarHandle" ∧ (parseMethodDescriptor yX5_within.desc).map (fun d => d.parameters.length) = some 2 := by decide +kernel
theorem hd_yX5_isIn : yX5_isIn.cls = RX5 ∧ yX5_isIn.cls ≠ "java/lang/invoke/MethodHandle" ∧ yX5_isIn.cls ≠ "java/lang/invoke/VarHandle" ∧ (parseMethodDescriptor yX5_isIn.desc).map (fun d => d.parameters.length) = some 2 := by decide +kernel
theorem hd_yX5_checkProduct : yX5_checkProduct.cls = RX5 ∧ yX5_checkProduct.cls ≠ "java/lang/invoke/MethodHandle" ∧ yX5_checkProduct.cls ≠ "java/lang/invoke/VarHandle" ∧ (parseMethodDescriptor yX5_checkProduct.desc).map (fun d => d.parameters.length) = some 1 := by decide +kernel
theorem hd_yX5_checkTime : yX5_checkTime.cls = RX5 ∧ yX5_checkTime.cls ≠ "java/lang/invoke/MethodHandle" ∧ yX5_checkTime.cls ≠ "java/lang/invoke/VarHandle" ∧ (parseMethodDescriptor yX5_checkTime.desc).map (fun d => d.parameters.length) = some 1 := by decide +kernel
theorem hd_yX5_orderNumbered : yX5_orderNumbered.cls = RX5 ∧ yX5_orderNumbered.cls ≠ "java/lang/invoke/MethodHandle" ∧ yX5_orderNumbered.cls ≠ "java/lang/invoke/VarHandle" ∧ (parseMethodDescriptor yX5_orderNumbered.desc).map (fun d => d.parameters.length) = some 1 := by decide +kernel
theorem hd_yX5_batchNumbered : yX5_batchNumbered.cls = RX5 ∧ yX5_batchNumbered.cls ≠ "java/lang/invoke/MethodHandle" ∧ yX5_batchNumbered.cls ≠ "java/lang/invoke/VarHandle" ∧ (parseMethodDescriptor yX5_batchNumbered.desc).map (fun d => d.parameters.length) = some 1 := by decide +kernel
theorem hd_yX5_takesLine : yX5_takesLine.cls = RX5 ∧ yX5_takesLine.cls ≠ "java/lang/invoke/MethodHandle" ∧ yX5_takesLine.cls ≠ "java/lang/invoke/VarHandle" ∧ (parseMethodDescriptor yX5_takesLine.desc).map (fun d => d.parameters.length) = some 1 := by decide +kernel
theorem hd_yX5_mostLinesToDo : yX5_mostLinesToDo.cls = RX5 ∧ yX5_mostLinesToDo.cls ≠ "java/lang/invoke/MethodHandle" ∧ yX5_mostLinesToDo.cls ≠ "java/lang/invoke/VarHandle" ∧ (parseMethodDescriptor yX5_mostLinesToDo.desc).map (fun d => d.parameters.length) = some 0 := by decide +kernel
theorem hd_yX5_takesAnyOrder : yX5_takesAnyOrder.cls = RX5 ∧ yX5_takesAnyOrder.cls ≠ "java/lang/invoke/MethodHandle" ∧ yX5_takesAnyOrder.cls ≠ "java/lang/invoke/VarHandle" ∧ (parseMethodDescriptor yX5_takesAnyOrder.desc).map (fun d => d.parameters.length) = some 1 := by decide +kernel
theorem hd_yX5_finish : yX5_finish.cls = RX5 ∧ yX5_finish.cls ≠ "java/lang/invoke/MethodHandle" ∧ yX5_finish.cls ≠ "java/lang/invoke/VarHandle" ∧ (parseMethodDescriptor yX5_finish.desc).map (fun d => d.parameters.length) = some 1 := by decide +kernel
theorem hd_yX6_init : yX6_init.cls = RX6 ∧ yX6_init.cls ≠ "java/lang/invoke/MethodHandle" ∧ yX6_init.cls ≠ "java/lang/invoke/VarHandle" ∧ (parseMethodDescriptor yX6_init.desc).map (fun d => d.parameters.length) = some 3 := by decide +kernel
theorem hd_yX6_thrown : yX6_thrown.cls = RX6 ∧ yX6_thrown.cls ≠ "java/lang/invoke/MethodHandle" ∧ yX6_thrown.cls ≠ "java/lang/invoke/VarHandle" ∧ (parseMethodDescriptor yX6_thrown.desc).map (fun d => d.parameters.length) = some 0 := by decide +kernel
theorem hd_yX6_fails : yX6_fails.cls = RX6 ∧ yX6_fails.cls ≠ "java/lang/invoke/MethodHandle" ∧ yX6_fails.cls ≠ "java/lang/invoke/VarHandle" ∧ (parseMethodDescriptor yX6_fails.desc).map (fun d => d.parameters.length) = some 1 := by decide +kernel
theorem hd_yX6_in : yX6_in.cls = RX6 ∧ yX6_in.cls ≠ "java/lang/invoke/MethodHandle" ∧ yX6_in.cls ≠ "java/lang/invoke/VarHandle" ∧ (parseMethodDescriptor yX6_in.desc).map (fun d => d.parameters.length) = some 3 := by decide +kernel
theorem hd_yX6_isProduct : yX6_isProduct.cls = RX6 ∧ yX6_isProduct.cls ≠ "java/lang/invoke/MethodHandle" ∧ yX6_isProduct.cls ≠ "java/lang/invoke/VarHandle" ∧ (parseMethodDescriptor yX6_isProduct.desc).map (fun d => d.parameters.length) = some 1 := by decide +kernel
theorem hd_yX6_isOrder : yX6_isOrder.cls = RX6 ∧ yX6_isOrder.cls ≠ "java/lang/invoke/MethodHandle" ∧ yX6_isOrder.cls ≠ "java/lang/invoke/VarHandle" ∧ (parseMethodDescriptor yX6_isOrder.desc).map (fun d => d.parameters.length) = some 1 := by decide +kernel
theorem hd_yX6_isBatch : yX6_isBatch.cls = RX6 ∧ yX6_isBatch.cls ≠ "java/lang/invoke/MethodHandle" ∧ yX6_isBatch.cls ≠ "java/lang/invoke/VarHandle" ∧ (parseMethodDescriptor yX6_isBatch.desc).map (fun d => d.parameters.length) = some 1 := by decide +kernel
theorem hd_yX6_way : yX6_way.cls = RX6 ∧ yX6_way.cls ≠ "java/lang/invoke/MethodHandle" ∧ yX6_way.cls ≠ "java/lang/invoke/VarHandle" ∧ (parseMethodDescriptor yX6_way.desc).map (fun d => d.parameters.length) = some 2 := by decide +kernel
theorem hd_yX6_step : yX6_step.cls = RX6 ∧ yX6_step.cls ≠ "java/lang/invoke/MethodHandle" ∧ yX6_step.cls ≠ "java/lang/invoke/VarHandle" ∧ (parseMethodDescriptor yX6_step.desc).map (fun d => d.parameters.length) = some 2 := by decide +kernel
theorem hd_yX6_layRoute : yX6_layRoute.cls = RX6 ∧ yX6_layRoute.cls ≠ "java/lang/invoke/MethodHandle" ∧ yX6_layRoute.cls ≠ "java/lang/invoke/VarHandle" ∧ (parseMethodDescriptor yX6_layRoute.desc).map (fun d => d.parameters.length) = some 1 := by decide +kernel
theorem hd_yX6_wayOn : yX6_wayOn.cls = RX6 ∧ yX6_wayOn.cls ≠ "java/lang/invoke/MethodHandle" ∧ yX6_wayOn.cls ≠ "java/lang/invoke/VarHandle" ∧ (parseMethodDescriptor yX6_wayOn.desc).map (fun d => d.parameters.length) = some 2 := by decide +kernel
theorem hd_yX6_length : yX6_length.cls = RX6 ∧ yX6_length.cls ≠ "java/lang/invoke/MethodHandle" ∧ yX6_length.cls ≠ "java/lang/invoke/VarHandle" ∧ (parseMethodDescriptor yX6_length.desc).map (fun d => d.parameters.length) = some 1 := by decide +kernel
theorem hd_yX6_layPath : yX6_layPath.cls = RX6 ∧ yX6_layPath.cls ≠ "java/lang/invoke/MethodHandle" ∧ yX6_layPath.cls ≠ "java/lang/invoke/VarHandle" ∧ (parseMethodDescriptor yX6_layPath.desc).map (fun d => d.parameters.length) = some 1 := by decide +kernel
theorem hd_yX6_put : yX6_put.cls = RX6 ∧ yX6_put.cls ≠ "java/lang/invoke/MethodHandle" ∧ yX6_put.cls ≠ "java/lang/invoke/VarHandle" ∧ (parseMethodDescriptor yX6_put.desc).map (fun d => d.parameters.length) = some 3 := by decide +kernel
theorem hd_yX6_turnoverOf : yX6_turnoverOf.cls = RX6 ∧ yX6_turnoverOf.cls ≠ "java/lang/invoke/MethodHandle" ∧ yX6_turnoverOf.cls ≠ "java/lang/invoke/VarHandle" ∧ (parseMethodDescriptor yX6_turnoverOf.desc).map (fun d => d.parameters.length) = some 1 := by decide +kernel
theorem hd_yX6_ranks : yX6_ranks.cls = RX6 ∧ yX6_ranks.cls ≠ "java/lang/invoke/MethodHandle" ∧ yX6_ranks.cls ≠ "java/lang/invoke/VarHandle" ∧ (parseMethodDescriptor yX6_ranks.desc).map (fun d => d.parameters.length) = some 2 := by decide +kernel
theorem hd_yX6_spreads : yX6_spreads.cls = RX6 ∧ yX6_spreads.cls ≠ "java/lang/invoke/MethodHandle" ∧ yX6_spreads.cls ≠ "java/lang/invoke/VarHandle" ∧ (parseMethodDescriptor yX6_spreads.desc).map (fun d => d.parameters.length) = some 2 := by decide +kernel
theorem hd_yX6_layOut : yX6_layOut.cls = RX6 ∧ yX6_layOut.cls ≠ "java/lang/invoke/MethodHandle" ∧ yX6_layOut.cls ≠ "java/lang/invoke/VarHandle" ∧ (parseMethodDescriptor yX6_layOut.desc).map (fun d => d.parameters.length) = some 0 := by decide +kernel
theorem hd_yX6_placeOf : yX6_placeOf.cls = RX6 ∧ yX6_placeOf.cls ≠ "java/lang/invoke/MethodHandle" ∧ yX6_placeOf.cls ≠ "java/lang/invoke/VarHandle" ∧ (parseMethodDescriptor yX6_placeOf.desc).map (fun d => d.parameters.length) = some 1 := by decide +kernel
theorem hd_yX6_turnover : yX6_turnover.cls = RX6 ∧ yX6_turnover.cls ≠ "java/lang/invoke/MethodHandle" ∧ yX6_turnover.cls ≠ "java/lang/invoke/VarHandle" ∧ (parseMethodDescriptor yX6_turnover.desc).map (fun d => d.parameters.length) = some 1 := by decide +kernel
theorem hd_yX6_distance : yX6_distance.cls = RX6 ∧ yX6_distance.cls ≠ "java/lang/invoke/MethodHandle" ∧ yX6_distance.cls ≠ "java/lang/invoke/VarHandle" ∧ (parseMethodDescriptor yX6_distance.desc).map (fun d => d.parameters.length) = some 2 := by decide +kernel
theorem hd_yX6_order : yX6_order.cls = RX6 ∧ yX6_order.cls ≠ "java/lang/invoke/MethodHandle" ∧ yX6_order.cls ≠ "java/lang/invoke/VarHandle" ∧ (parseMethodDescriptor yX6_order.desc).map (fun d => d.parameters.length) = some 1 := by decide +kernel
theorem hd_yX6_wanted : yX6_wanted.cls = RX6 ∧ yX6_wanted.cls ≠ "java/lang/invoke/MethodHandle" ∧ yX6_wanted.cls ≠ "java/lang/invoke/VarHandle" ∧ (parseMethodDescriptor yX6_wanted.desc).map (fun d => d.parameters.length) = some 1 := by decide +kernel
theorem hd_yX6_line : yX6_line.cls = RX6 ∧ yX6_line.cls ≠ "java/lang/invoke/MethodHandle" ∧ yX6_line.cls ≠ "java/lang/invoke/VarHandle" ∧ (parseMethodDescriptor yX6_line.desc).map (fun d => d.parameters.length) = some 3 := by decide +kernel
theorem hd_yX6_orders : yX6_orders.cls = RX6 ∧ yX6_orders.cls ≠ "java/lang/invoke/MethodHandle" ∧ yX6_orders.cls ≠ "java/lang/invoke/VarHandle" ∧ (parseMethodDescriptor yX6_orders.desc).map (fun d => d.parameters.length) = some 0 := by decide +kernel
theorem hd_yX6_stateOf : yX6_stateOf.cls = RX6 ∧ yX6_stateOf.cls ≠ "java/lang/invoke/MethodHandle" ∧ yX6_stateOf.cls ≠ "java/lang/invoke/VarHandle" ∧ (parseMethodDescriptor yX6_stateOf.desc).map (fun d => d.parameters.length) = some 1 := by decide +kernel
theorem hd_yX6_lengthAlone : yX6_lengthAlone.cls = RX6 ∧ yX6_lengthAlone.cls ≠ "java/lang/invoke/MethodHandle" ∧ yX6_lengthAlone.cls ≠ "java/lang/invoke/VarHandle" ∧ (parseMethodDescriptor yX6_lengthAlone.desc).map (fun d => d.parameters.length) = some 1 := by decide +kernel
theorem hd_yX6_setCapacity : yX6_setCapacity.cls = RX6 ∧ yX6_setCapacity.cls ≠ "java/lang/invoke/MethodHandle" ∧ yX6_setCapacity.cls ≠ "java/lang/invoke/VarHandle" ∧ (parseMethodDescriptor yX6_setCapacity.desc).map (fun d => d.parameters.length) = some 1 := by decide +kernel
theorem hd_yX6_productsOf : yX6_productsOf.cls = RX6 ∧ yX6_productsOf.cls ≠ "java/lang/invoke/MethodHandle" ∧ yX6_productsOf.cls ≠ "java/lang/invoke/VarHandle" ∧ (parseMethodDescriptor yX6_productsOf.desc).map (fun d => d.parameters.length) = some 1 := by decide +kernel
theorem hd_yX6_countLines : yX6_countLines.cls = RX6 ∧ yX6_countLines.cls ≠ "java/lang/invoke/MethodHandle" ∧ yX6_countLines.cls ≠ "java/lang/invoke/VarHandle" ∧ (parseMethodDescriptor yX6_countLines.desc).map (fun d => d.parameters.length) = some 1 := by decide +kernel
theorem hd_yX6_closeUp : yX6_closeUp.cls = RX6 ∧ yX6_closeUp.cls ≠ "java/lang/invoke/MethodHandle" ∧ yX6_closeUp.cls ≠ "java/lang/invoke/VarHandle" ∧ (parseMethodDescriptor yX6_closeUp.desc).map (fun d => d.parameters.length) = some 1 := by decide +kernel
theorem hd_yX6_joins : yX6_joins.cls = RX6 ∧ yX6_joins.cls ≠ "java/lang/invoke/MethodHandle" ∧ yX6_joins.cls ≠ "java/lang/invoke/VarHandle" ∧ (parseMethodDescriptor yX6_joins.desc).map (fun d => d.parameters.length) = some 0 := by decide +kernel
theorem hd_yX6_planWave : yX6_planWave.cls = RX6 ∧ yX6_planWave.cls ≠ "java/lang/invoke/MethodHandle" ∧ yX6_planWave.cls ≠ "java/lang/invoke/VarHandle" ∧ (parseMethodDescriptor yX6_planWave.desc).map (fun d => d.parameters.length) = some 1 := by decide +kernel
theorem hd_yX6_pick : yX6_pick.cls = RX6 ∧ yX6_pick.cls ≠ "java/lang/invoke/MethodHandle" ∧ yX6_pick.cls ≠ "java/lang/invoke/VarHandle" ∧ (parseMethodDescriptor yX6_pick.desc).map (fun d => d.parameters.length) = some 1 := by decide +kernel
theorem hd_yX6_batches : yX6_batches.cls = RX6 ∧ yX6_batches.cls ≠ "java/lang/invoke/MethodHandle" ∧ yX6_batches.cls ≠ "java/lang/invoke/VarHandle" ∧ (parseMethodDescriptor yX6_batches.desc).map (fun d => d.parameters.length) = some 0 := by decide +kernel
theorem hd_yX6_batchOf : yX6_batchOf.cls = RX6 ∧ yX6_batchOf.cls ≠ "java/lang/invoke/MethodHandle" ∧ yX6_batchOf.cls ≠ "java/lang/invoke/VarHandle" ∧ (parseMethodDescriptor yX6_batchOf.desc).map (fun d => d.parameters.length) = some 1 := by decide +kernel
theorem hd_yX6_linesOf : yX6_linesOf.cls = RX6 ∧ yX6_linesOf.cls ≠ "java/lang/invoke/MethodHandle" ∧ yX6_linesOf.cls ≠ "java/lang/invoke/VarHandle" ∧ (parseMethodDescriptor yX6_linesOf.desc).map (fun d => d.parameters.length) = some 1 := by decide +kernel
theorem hd_yX6_lengthOf : yX6_lengthOf.cls = RX6 ∧ yX6_lengthOf.cls ≠ "java/lang/invoke/MethodHandle" ∧ yX6_lengthOf.cls ≠ "java/lang/invoke/VarHandle" ∧ (parseMethodDescriptor yX6_lengthOf.desc).map (fun d => d.parameters.length) = some 1 := by decide +kernel
theorem hd_yX6_lengthByTrying : yX6_lengthByTrying.cls = RX6 ∧ yX6_lengthByTrying.cls ≠ "java/lang/invoke/MethodHandle" ∧ yX6_lengthByTrying.cls ≠ "java/lang/invoke/VarHandle" ∧ (parseMethodDescriptor yX6_lengthByTrying.desc).map (fun d => d.parameters.length) = some 1 := by decide +kernel
theorem hd_yX6_farthest : yX6_farthest.cls = RX6 ∧ yX6_farthest.cls ≠ "java/lang/invoke/MethodHandle" ∧ yX6_farthest.cls ≠ "java/lang/invoke/VarHandle" ∧ (parseMethodDescriptor yX6_farthest.desc).map (fun d => d.parameters.length) = some 2 := by decide +kernel
theorem hd_yX6_lengthThrough : yX6_lengthThrough.cls = RX6 ∧ yX6_lengthThrough.cls ≠ "java/lang/invoke/MethodHandle" ∧ yX6_lengthThrough.cls ≠ "java/lang/invoke/VarHandle" ∧ (parseMethodDescriptor yX6_lengthThrough.desc).map (fun d => d.parameters.length) = some 1 := by decide +kernel
theorem hd_yX6_stops : yX6_stops.cls = RX6 ∧ yX6_stops.cls ≠ "java/lang/invoke/MethodHandle" ∧ yX6_stops.cls ≠ "java/lang/invoke/VarHandle" ∧ (parseMethodDescriptor yX6_stops.desc).map (fun d => d.parameters.length) = some 1 := by decide +kernel
theorem hd_yX6_stopAt : yX6_stopAt.cls = RX6 ∧ yX6_stopAt.cls ≠ "java/lang/invoke/MethodHandle" ∧ yX6_stopAt.cls ≠ "java/lang/invoke/VarHandle" ∧ (parseMethodDescriptor yX6_stopAt.desc).map (fun d => d.parameters.length) = some 2 := by decide +kernel
theorem hd_yX6_inAisle : yX6_inAisle.cls = RX6 ∧ yX6_inAisle.cls ≠ "java/lang/invoke/MethodHandle" ∧ yX6_inAisle.cls ≠ "java/lang/invoke/VarHandle" ∧ (parseMethodDescriptor yX6_inAisle.desc).map (fun d => d.parameters.length) = some 1 := by decide +kernel
theorem hd_yX6_walked : yX6_walked.cls = RX6 ∧ yX6_walked.cls ≠ "java/lang/invoke/MethodHandle" ∧ yX6_walked.cls ≠ "java/lang/invoke/VarHandle" ∧ (parseMethodDescriptor yX6_walked.desc).map (fun d => d.parameters.length) = some 0 := by decide +kernel
theorem hd_yX6_share : yX6_share.cls = RX6 ∧ yX6_share.cls ≠ "java/lang/invoke/MethodHandle" ∧ yX6_share.cls ≠ "java/lang/invoke/VarHandle" ∧ (parseMethodDescriptor yX6_share.desc).map (fun d => d.parameters.length) = some 0 := by decide +kernel
theorem hd_yJ6_bitCount_0f7a4 : yJ6_bitCount_0f7a4.cls = RJ6 ∧ yJ6_bitCount_0f7a4.cls ≠ "java/lang/invoke/MethodHandle" ∧ yJ6_bitCount_0f7a4.cls ≠ "java/lang/invoke/VarHandle" ∧ (parseMethodDescriptor yJ6_bitCount_0f7a4.desc).map (fun d => d.parameters.length) = some 1 := by decide +kernel
theorem hd_yJ9_abs_0f7a4 : yJ9_abs_0f7a4.cls = RJ9 ∧ yJ9_abs_0f7a4.cls ≠ "java/lang/invoke/MethodHandle" ∧ yJ9_abs_0f7a4.cls ≠ "java/lang/invoke/VarHandle" ∧ (parseMethodDescriptor yJ9_abs_0f7a4.desc).map (fun d => d.parameters.length) = some 1 := by decide +kernel
theorem hd_yJ9_max_7cf53 : yJ9_max_7cf53.cls = RJ9 ∧ yJ9_max_7cf53.cls ≠ "java/lang/invoke/MethodHandle" ∧ yJ9_max_7cf53.cls ≠ "java/lang/invoke/VarHandle" ∧ (parseMethodDescriptor yJ9_max_7cf53.desc).map (fun d => d.parameters.length) = some 2 := by decide +kernel
theorem hd_yJ9_min_7cf53 : yJ9_min_7cf53.cls = RJ9 ∧ yJ9_min_7cf53.cls ≠ "java/lang/invoke/MethodHandle" ∧ yJ9_min_7cf53.cls ≠ "java/lang/invoke/VarHandle" ∧ (parseMethodDescriptor yJ9_min_7cf53.desc).map (fun d => d.parameters.length) = some 2 := by decide +kernel
theorem hd_yJxa1e45_init_da8c8 : yJxa1e45_init_da8c8.cls = RJxa1e45 ∧ yJxa1e45_init_da8c8.cls ≠ "java/lang/invoke/MethodHandle" ∧ yJxa1e45_init_da8c8.cls ≠ "java/lang/invoke/VarHandle" ∧ (parseMethodDescriptor yJxa1e45_init_da8c8.desc).map (fun d => d.parameters.length) = some 0 := by decide +kernel
theorem hd_yJxc12de_init_da8c8 : yJxc12de_init_da8c8.cls = RJxc12de ∧ yJxc12de_init_da8c8.cls ≠ "java/lang/invoke/MethodHandle" ∧ yJxc12de_init_da8c8.cls ≠ "java/lang/invoke/VarHandle" ∧ (parseMethodDescriptor yJxc12de_init_da8c8.desc).map (fun d => d.parameters.length) = some 0 := by decide +kernel
theorem hd_yJx4a65c_init_da8c8 : yJx4a65c_init_da8c8.cls = RJx4a65c ∧ yJx4a65c_init_da8c8.cls ≠ "java/lang/invoke/MethodHandle" ∧ yJx4a65c_init_da8c8.cls ≠ "java/lang/invoke/VarHandle" ∧ (parseMethodDescriptor yJx4a65c_init_da8c8.desc).map (fun d => d.parameters.length) = some 0 := by decide +kernel
theorem hd_yJx4a65c_grow_92f84 : yJx4a65c_grow_92f84.cls = RJx4a65c ∧ yJx4a65c_grow_92f84.cls ≠ "java/lang/invoke/MethodHandle" ∧ yJx4a65c_grow_92f84.cls ≠ "java/lang/invoke/VarHandle" ∧ (parseMethodDescriptor yJx4a65c_grow_92f84.desc).map (fun d => d.parameters.length) = some 1 := by decide +kernel
theorem hd_yJx4a65c_grow_d5877 : yJx4a65c_grow_d5877.cls = RJx4a65c ∧ yJx4a65c_grow_d5877.cls ≠ "java/lang/invoke/MethodHandle" ∧ yJx4a65c_grow_d5877.cls ≠ "java/lang/invoke/VarHandle" ∧ (parseMethodDescriptor yJx4a65c_grow_d5877.desc).map (fun d => d.parameters.length) = some 0 := by decide +kernel
theorem hd_yJx4a65c_size_8abf5 : yJx4a65c_size_8abf5.cls = RJx4a65c ∧ yJx4a65c_size_8abf5.cls ≠ "java/lang/invoke/MethodHandle" ∧ yJx4a65c_size_8abf5.cls ≠ "java/lang/invoke/VarHandle" ∧ (parseMethodDescriptor yJx4a65c_size_8abf5.desc).map (fun d => d.parameters.length) = some 0 := by decide +kernel
theorem hd_yJx4a65c_isEmpty_aae02 : yJx4a65c_isEmpty_aae02.cls = RJx4a65c ∧ yJx4a65c_isEmpty_aae02.cls ≠ "java/lang/invoke/MethodHandle" ∧ yJx4a65c_isEmpty_aae02.cls ≠ "java/lang/invoke/VarHandle" ∧ (parseMethodDescriptor yJx4a65c_isEmpty_aae02.desc).map (fun d => d.parameters.length) = some 0 := by decide +kernel
theorem hd_yJx4a65c_elementData_915e3 : yJx4a65c_elementData_915e3.cls = RJx4a65c ∧ yJx4a65c_elementData_915e3.cls ≠ "java/lang/invoke/MethodHandle" ∧ yJx4a65c_elementData_915e3.cls ≠ "java/lang/invoke/VarHandle" ∧ (parseMethodDescriptor yJx4a65c_elementData_915e3.desc).map (fun d => d.parameters.length) = some 1 := by decide +kernel
theorem hd_yJx4a65c_get_915e3 : yJx4a65c_get_915e3.cls = RJx4a65c ∧ yJx4a65c_get_915e3.cls ≠ "java/lang/invoke/MethodHandle" ∧ yJx4a65c_get_915e3.cls ≠ "java/lang/invoke/VarHandle" ∧ (parseMethodDescriptor yJx4a65c_get_915e3.desc).map (fun d => d.parameters.length) = some 1 := by decide +kernel
theorem hd_yJx4a65c_add_72be8 : yJx4a65c_add_72be8.cls = RJx4a65c ∧ yJx4a65c_add_72be8.cls ≠ "java/lang/invoke/MethodHandle" ∧ yJx4a65c_add_72be8.cls ≠ "java/lang/invoke/VarHandle" ∧ (parseMethodDescriptor yJx4a65c_add_72be8.desc).map (fun d => d.parameters.length) = some 3 := by decide +kernel
theorem hd_yJx4a65c_add_9ea2d : yJx4a65c_add_9ea2d.cls = RJx4a65c ∧ yJx4a65c_add_9ea2d.cls ≠ "java/lang/invoke/MethodHandle" ∧ yJx4a65c_add_9ea2d.cls ≠ "java/lang/invoke/VarHandle" ∧ (parseMethodDescriptor yJx4a65c_add_9ea2d.desc).map (fun d => d.parameters.length) = some 1 := by decide +kernel
theorem hd_yJx4a65c_remove_915e3 : yJx4a65c_remove_915e3.cls = RJx4a65c ∧ yJx4a65c_remove_915e3.cls ≠ "java/lang/invoke/MethodHandle" ∧ yJx4a65c_remove_915e3.cls ≠ "java/lang/invoke/VarHandle" ∧ (parseMethodDescriptor yJx4a65c_remove_915e3.desc).map (fun d => d.parameters.length) = some 1 := by decide +kernel
theorem hd_yJx4a65c_fastRemove_b59b0 : yJx4a65c_fastRemove_b59b0.cls = RJx4a65c ∧ yJx4a65c_fastRemove_b59b0.cls ≠ "java/lang/invoke/MethodHandle" ∧ yJx4a65c_fastRemove_b59b0.cls ≠ "java/lang/invoke/VarHandle" ∧ (parseMethodDescriptor yJx4a65c_fastRemove_b59b0.desc).map (fun d => d.parameters.length) = some 2 := by decide +kernel
theorem hd_yJ7_copyOf_1904c : yJ7_copyOf_1904c.cls = RJ7 ∧ yJ7_copyOf_1904c.cls ≠ "java/lang/invoke/MethodHandle" ∧ yJ7_copyOf_1904c.cls ≠ "java/lang/invoke/VarHandle" ∧ (parseMethodDescriptor yJ7_copyOf_1904c.desc).map (fun d => d.parameters.length) = some 2 := by decide +kernel
theorem hd_yJ7_copyOf_6403c : yJ7_copyOf_6403c.cls = RJ7 ∧ yJ7_copyOf_6403c.cls ≠ "java/lang/invoke/MethodHandle" ∧ yJ7_copyOf_6403c.cls ≠ "java/lang/invoke/VarHandle" ∧ (parseMethodDescriptor yJ7_copyOf_6403c.desc).map (fun d => d.parameters.length) = some 3 := by decide +kernel
theorem hd_yJ15_checkIndex_7cf53 : yJ15_checkIndex_7cf53.cls = RJ15 ∧ yJ15_checkIndex_7cf53.cls ≠ "java/lang/invoke/MethodHandle" ∧ yJ15_checkIndex_7cf53.cls ≠ "java/lang/invoke/VarHandle" ∧ (parseMethodDescriptor yJ15_checkIndex_7cf53.desc).map (fun d => d.parameters.length) = some 2 := by decide +kernel
theorem hd_yJ8_newLength_cabcc : yJ8_newLength_cabcc.cls = RJ8 ∧ yJ8_newLength_cabcc.cls ≠ "java/lang/invoke/MethodHandle" ∧ yJ8_newLength_cabcc.cls ≠ "java/lang/invoke/VarHandle" ∧ (parseMethodDescriptor yJ8_newLength_cabcc.desc).map (fun d => d.parameters.length) = some 3 := by decide +kernel
theorem hd_yJ8_hugeLength_7cf53 : yJ8_hugeLength_7cf53.cls = RJ8 ∧ yJ8_hugeLength_7cf53.cls ≠ "java/lang/invoke/MethodHandle" ∧ yJ8_hugeLength_7cf53.cls ≠ "java/lang/invoke/VarHandle" ∧ (parseMethodDescriptor yJ8_hugeLength_7cf53.desc).map (fun d => d.parameters.length) = some 2 := by decide +kernel
theorem hd_yJ3_checkIndex_8e157 : yJ3_checkIndex_8e157.cls = RJ3 ∧ yJ3_checkIndex_8e157.cls ≠ "java/lang/invoke/MethodHandle" ∧ yJ3_checkIndex_8e157.cls ≠ "java/lang/invoke/VarHandle" ∧ (parseMethodDescriptor yJ3_checkIndex_8e157.desc).map (fun d => d.parameters.length) = some 3 := by decide +kernel
theorem hd_yL_cell : yL_cell.cls = RL ∧ yL_cell.cls ≠ "java/lang/invoke/MethodHandle" ∧ yL_cell.cls ≠ "java/lang/invoke/VarHandle" ∧ (parseMethodDescriptor yL_cell.desc).map (fun d => d.parameters.length) = some 2 := by decide +kernel
theorem hd_yL_put : yL_put.cls = RL ∧ yL_put.cls ≠ "java/lang/invoke/MethodHandle" ∧ yL_put.cls ≠ "java/lang/invoke/VarHandle" ∧ (parseMethodDescriptor yL_put.desc).map (fun d => d.parameters.length) = some 5 := by decide +kernel
theorem hd_yL_layOut : yL_layOut.cls = RL ∧ yL_layOut.cls ≠ "java/lang/invoke/MethodHandle" ∧ yL_layOut.cls ≠ "java/lang/invoke/VarHandle" ∧ (parseMethodDescriptor yL_layOut.desc).map (fun d => d.parameters.length) = some 2 := by decide +kernel
theorem hd_yL_placeOf : yL_placeOf.cls = RL ∧ yL_placeOf.cls ≠ "java/lang/invoke/MethodHandle" ∧ yL_placeOf.cls ≠ "java/lang/invoke/VarHandle" ∧ (parseMethodDescriptor yL_placeOf.desc).map (fun d => d.parameters.length) = some 3 := by decide +kernel
theorem hd_yL_turnover : yL_turnover.cls = RL ∧ yL_turnover.cls ≠ "java/lang/invoke/MethodHandle" ∧ yL_turnover.cls ≠ "java/lang/invoke/VarHandle" ∧ (parseMethodDescriptor yL_turnover.desc).map (fun d => d.parameters.length) = some 3 := by decide +kernel
theorem hd_yL_distance : yL_distance.cls = RL ∧ yL_distance.cls ≠ "java/lang/invoke/MethodHandle" ∧ yL_distance.cls ≠ "java/lang/invoke/VarHandle" ∧ (parseMethodDescriptor yL_distance.desc).map (fun d => d.parameters.length) = some 4 := by decide +kernel
theorem hd_yL_order : yL_order.cls = RL ∧ yL_order.cls ≠ "java/lang/invoke/MethodHandle" ∧ yL_order.cls ≠ "java/lang/invoke/VarHandle" ∧ (parseMethodDescriptor yL_order.desc).map (fun d => d.parameters.length) = some 3 := by decide +kernel
theorem hd_yL_line : yL_line.cls = RL ∧ yL_line.cls ≠ "java/lang/invoke/MethodHandle" ∧ yL_line.cls ≠ "java/lang/invoke/VarHandle" ∧ (parseMethodDescriptor yL_line.desc).map (fun d => d.parameters.length) = some 5 := by decide +kernel
theorem hd_yL_stateOf : yL_stateOf.cls = RL ∧ yL_stateOf.cls ≠ "java/lang/invoke/MethodHandle" ∧ yL_stateOf.cls ≠ "java/lang/invoke/VarHandle" ∧ (parseMethodDescriptor yL_stateOf.desc).map (fun d => d.parameters.length) = some 3 := by decide +kernel
theorem hd_yL_lengthAlone : yL_lengthAlone.cls = RL ∧ yL_lengthAlone.cls ≠ "java/lang/invoke/MethodHandle" ∧ yL_lengthAlone.cls ≠ "java/lang/invoke/VarHandle" ∧ (parseMethodDescriptor yL_lengthAlone.desc).map (fun d => d.parameters.length) = some 3 := by decide +kernel
theorem hd_yL_setCapacity : yL_setCapacity.cls = RL ∧ yL_setCapacity.cls ≠ "java/lang/invoke/MethodHandle" ∧ yL_setCapacity.cls ≠ "java/lang/invoke/VarHandle" ∧ (parseMethodDescriptor yL_setCapacity.desc).map (fun d => d.parameters.length) = some 3 := by decide +kernel
theorem hd_yL_planWave : yL_planWave.cls = RL ∧ yL_planWave.cls ≠ "java/lang/invoke/MethodHandle" ∧ yL_planWave.cls ≠ "java/lang/invoke/VarHandle" ∧ (parseMethodDescriptor yL_planWave.desc).map (fun d => d.parameters.length) = some 3 := by decide +kernel
theorem hd_yL_pick : yL_pick.cls = RL ∧ yL_pick.cls ≠ "java/lang/invoke/MethodHandle" ∧ yL_pick.cls ≠ "java/lang/invoke/VarHandle" ∧ (parseMethodDescriptor yL_pick.desc).map (fun d => d.parameters.length) = some 3 := by decide +kernel
theorem hd_yL_batchOf : yL_batchOf.cls = RL ∧ yL_batchOf.cls ≠ "java/lang/invoke/MethodHandle" ∧ yL_batchOf.cls ≠ "java/lang/invoke/VarHandle" ∧ (parseMethodDescriptor yL_batchOf.desc).map (fun d => d.parameters.length) = some 3 := by decide +kernel
theorem hd_yL_linesOf : yL_linesOf.cls = RL ∧ yL_linesOf.cls ≠ "java/lang/invoke/MethodHandle" ∧ yL_linesOf.cls ≠ "java/lang/invoke/VarHandle" ∧ (parseMethodDescriptor yL_linesOf.desc).map (fun d => d.parameters.length) = some 3 := by decide +kernel
theorem hd_yL_lengthOf : yL_lengthOf.cls = RL ∧ yL_lengthOf.cls ≠ "java/lang/invoke/MethodHandle" ∧ yL_lengthOf.cls ≠ "java/lang/invoke/VarHandle" ∧ (parseMethodDescriptor yL_lengthOf.desc).map (fun d => d.parameters.length) = some 3 := by decide +kernel
theorem hd_yL_lengthByTrying : yL_lengthByTrying.cls = RL ∧ yL_lengthByTrying.cls ≠ "java/lang/invoke/MethodHandle" ∧ yL_lengthByTrying.cls ≠ "java/lang/invoke/VarHandle" ∧ (parseMethodDescriptor yL_lengthByTrying.desc).map (fun d => d.parameters.length) = some 3 := by decide +kernel
theorem hd_yL_lengthThrough : yL_lengthThrough.cls = RL ∧ yL_lengthThrough.cls ≠ "java/lang/invoke/MethodHandle" ∧ yL_lengthThrough.cls ≠ "java/lang/invoke/VarHandle" ∧ (parseMethodDescriptor yL_lengthThrough.desc).map (fun d => d.parameters.length) = some 3 := by decide +kernel
theorem hd_yL_stops : yL_stops.cls = RL ∧ yL_stops.cls ≠ "java/lang/invoke/MethodHandle" ∧ yL_stops.cls ≠ "java/lang/invoke/VarHandle" ∧ (parseMethodDescriptor yL_stops.desc).map (fun d => d.parameters.length) = some 3 := by decide +kernel
theorem hd_yL_stopAt : yL_stopAt.cls = RL ∧ yL_stopAt.cls ≠ "java/lang/invoke/MethodHandle" ∧ yL_stopAt.cls ≠ "java/lang/invoke/VarHandle" ∧ (parseMethodDescriptor yL_stopAt.desc).map (fun d => d.parameters.length) = some 4 := by decide +kernel
theorem hd_yL_inAisle : yL_inAisle.cls = RL ∧ yL_inAisle.cls ≠ "java/lang/invoke/MethodHandle" ∧ yL_inAisle.cls ≠ "java/lang/invoke/VarHandle" ∧ (parseMethodDescriptor yL_inAisle.desc).map (fun d => d.parameters.length) = some 3 := by decide +kernel
theorem hd_yL_law : yL_law.cls = RL ∧ yL_law.cls ≠ "java/lang/invoke/MethodHandle" ∧ yL_law.cls ≠ "java/lang/invoke/VarHandle" ∧ (parseMethodDescriptor yL_law.desc).map (fun d => d.parameters.length) = some 1 := by decide +kernel
def StrL : List (String × Nat × String) := [(RX5, 238, "no such product"), (RX5, 64, "no such place"), (RX5, 79, "another product is there, or there is a wave"), (RX5, 85, "there is a wave"), (RX5, 98, "a product is at no place"), (RX5, 240, "the time is out of range"), (RX5, 109, "there are as many orders as there may be"), (RX5, 242, "no such order"), (RX5, 125, "quantity is out of range"), (RX5, 135, "the order can't have this line"), (RX5, 153, "lines is out of range"), (RX5, 158, "an order has more lines, or there is a wave"), (RX5, 163, "there is a wave, or it would take no order"), (RX5, 244, "no such batch"), (RX5, 211, "too many places to try"), (RX5, 220, "no such stop"), (RX5, 222, "no such aisle")]
theorem s_RX5_238 : (RX5, 238, "no such product") ∈ StrL := by decide +kernel
theorem s_RX5_64 : (RX5, 64, "no such place") ∈ StrL := by decide +kernel
theorem s_RX5_79 : (RX5, 79, "another product is there, or there is a wave") ∈ StrL := by decide +kernel
theorem s_RX5_85 : (RX5, 85, "there is a wave") ∈ StrL := by decide +kernel
theorem s_RX5_98 : (RX5, 98, "a product is at no place") ∈ StrL := by decide +kernel
theorem s_RX5_240 : (RX5, 240, "the time is out of range") ∈ StrL := by decide +kernel
theorem s_RX5_109 : (RX5, 109, "there are as many orders as there may be") ∈ StrL := by decide +kernel
theorem s_RX5_242 : (RX5, 242, "no such order") ∈ StrL := by decide +kernel
theorem s_RX5_125 : (RX5, 125, "quantity is out of range") ∈ StrL := by decide +kernel
theorem s_RX5_135 : (RX5, 135, "the order can't have this line") ∈ StrL := by decide +kernel
theorem s_RX5_153 : (RX5, 153, "lines is out of range") ∈ StrL := by decide +kernel
theorem s_RX5_158 : (RX5, 158, "an order has more lines, or there is a wave") ∈ StrL := by decide +kernel
theorem s_RX5_163 : (RX5, 163, "there is a wave, or it would take no order") ∈ StrL := by decide +kernel
theorem s_RX5_244 : (RX5, 244, "no such batch") ∈ StrL := by decide +kernel
theorem s_RX5_211 : (RX5, 211, "too many places to try") ∈ StrL := by decide +kernel
theorem s_RX5_220 : (RX5, 220, "no such stop") ∈ StrL := by decide +kernel
theorem s_RX5_222 : (RX5, 222, "no such aisle") ∈ StrL := by decide +kernel
theorem ul_X0 : ∀ w ∈ wsX00, w ∈ UW := by decide +kernel
theorem ul_X1 : ∀ w ∈ wsX10, w ∈ UW := by decide +kernel
theorem ul_X2 : ∀ w ∈ wsX20, w ∈ UW := by decide +kernel
theorem ul_X3 : ∀ w ∈ wsX30, w ∈ UW := by decide +kernel
theorem ul_X4 : ∀ w ∈ wsX40, w ∈ UW := by decide +kernel
theorem ul_X5 : ∀ w ∈ wsX50, w ∈ UW := by decide +kernel
theorem ul_X6 : ∀ w ∈ wsX60, w ∈ UW := by decide +kernel
theorem ul_Jx4a65c : ∀ w ∈ wsJx4a65c0, w ∈ UW := by decide +kernel
