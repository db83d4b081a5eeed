/-- words of nest mates and casts -/
def isNest : Cond → Bool
  | .fieldLinkNest .. => true
  | .methodLinkNest .. => true
  | .castable .. => true
  | .declares .. => true
  | _ => false
def UN : List Cond := lw_tbl.filter isNest
theorem un {w : Cond} (i : Nat) (h : lw_tbl[i]? = some w) (hg : isNest w = true) : w ∈ UN := List.mem_filter.mpr ⟨List.mem_of_getElem? h, hg⟩
/-- all words that stay good -/
def UW : List Cond := lw_tbl.filter goodWord
theorem uw {w : Cond} (i : Nat) (h : lw_tbl[i]? = some w) (hg : goodWord w = true) : w ∈ UW := List.mem_filter.mpr ⟨List.mem_of_getElem? h, hg⟩
theorem u_se_yJx4a65c_add_72be8 : (.selects RJx4a65c yJx4a65c_add_72be8 yJx4a65c_add_72be8 : Cond) ∈ UW := uw 1 (by decide +kernel) (by decide +kernel)
theorem u_se_yJx4a65c_grow_d5877 : (.selects RJx4a65c yJx4a65c_grow_d5877 yJx4a65c_grow_d5877 : Cond) ∈ UW := uw 2 (by decide +kernel) (by decide +kernel)
theorem u_se_yJx4a65c_grow_92f84 : (.selects RJx4a65c yJx4a65c_grow_92f84 yJx4a65c_grow_92f84 : Cond) ∈ UW := uw 3 (by decide +kernel) (by decide +kernel)
theorem u_se_yX3_insertPlace : (.selects RX3 yX3_insertPlace yX3_insertPlace : Cond) ∈ UW := uw 4 (by decide +kernel) (by decide +kernel)
theorem u_se_yX3_isNearer : (.selects RX3 yX3_isNearer yX3_isNearer : Cond) ∈ UW := uw 5 (by decide +kernel) (by decide +kernel)
theorem u_se_yX3_insertProduct : (.selects RX3 yX3_insertProduct yX3_insertProduct : Cond) ∈ UW := uw 6 (by decide +kernel) (by decide +kernel)
theorem u_se_yX5_orderNumbered : (.selects RX5 yX5_orderNumbered yX5_orderNumbered : Cond) ∈ UW := uw 7 (by decide +kernel) (by decide +kernel)
theorem u_se_yX5_takesLine : (.selects RX5 yX5_takesLine yX5_takesLine : Cond) ∈ UW := uw 8 (by decide +kernel) (by decide +kernel)
theorem u_se_yX5_mostLinesToDo : (.selects RX5 yX5_mostLinesToDo yX5_mostLinesToDo : Cond) ∈ UW := uw 9 (by decide +kernel) (by decide +kernel)
theorem u_se_yX5_takesAnyOrder : (.selects RX5 yX5_takesAnyOrder yX5_takesAnyOrder : Cond) ∈ UW := uw 10 (by decide +kernel) (by decide +kernel)
theorem u_se_yX2_gather : (.selects RX2 yX2_gather yX2_gather : Cond) ∈ UW := uw 11 (by decide +kernel) (by decide +kernel)
theorem u_se_yX2_insertPlace : (.selects RX2 yX2_insertPlace yX2_insertPlace : Cond) ∈ UW := uw 12 (by decide +kernel) (by decide +kernel)
theorem u_se_yX2_fillOnward : (.selects RX2 yX2_fillOnward yX2_fillOnward : Cond) ∈ UW := uw 13 (by decide +kernel) (by decide +kernel)
theorem u_se_yX2_leastOnward : (.selects RX2 yX2_leastOnward yX2_leastOnward : Cond) ∈ UW := uw 14 (by decide +kernel) (by decide +kernel)
theorem u_se_yX2_lengthBy : (.selects RX2 yX2_lengthBy yX2_lengthBy : Cond) ∈ UW := uw 15 (by decide +kernel) (by decide +kernel)
theorem u_se_yX2_everyPlace : (.selects RX2 yX2_everyPlace yX2_everyPlace : Cond) ∈ UW := uw 16 (by decide +kernel) (by decide +kernel)
theorem u_se_yX4_noteSaving : (.selects RX4 yX4_noteSaving yX4_noteSaving : Cond) ∈ UW := uw 17 (by decide +kernel) (by decide +kernel)
theorem u_se_yX4_joinBestPair : (.selects RX4 yX4_joinBestPair yX4_joinBestPair : Cond) ∈ UW := uw 18 (by decide +kernel) (by decide +kernel)
theorem u_se_yX4_savingOf : (.selects RX4 yX4_savingOf yX4_savingOf : Cond) ∈ UW := uw 19 (by decide +kernel) (by decide +kernel)
theorem u_se_yJx4a65c_fastRemove_b59b0 : (.selects RJx4a65c yJx4a65c_fastRemove_b59b0 yJx4a65c_fastRemove_b59b0 : Cond) ∈ UW := uw 20 (by decide +kernel) (by decide +kernel)
theorem u_se_yX2_bestNext : (.selects RX2 yX2_bestNext yX2_bestNext : Cond) ∈ UW := uw 21 (by decide +kernel) (by decide +kernel)
theorem u_se_yX5_batchNumbered : (.selects RX5 yX5_batchNumbered yX5_batchNumbered : Cond) ∈ UW := uw 22 (by decide +kernel) (by decide +kernel)
theorem u_se_yX5_finish : (.selects RX5 yX5_finish yX5_finish : Cond) ∈ UW := uw 23 (by decide +kernel) (by decide +kernel)
theorem u_se_yX2_countAisles : (.selects RX2 yX2_countAisles yX2_countAisles : Cond) ∈ UW := uw 24 (by decide +kernel) (by decide +kernel)
theorem u_in_RL : (.initialized RL : Cond) ∈ UW := uw 25 (by decide +kernel) (by decide +kernel)
theorem u_in_RX5 : (.initialized RX5 : Cond) ∈ UW := uw 26 (by decide +kernel) (by decide +kernel)
theorem u_in_RX3 : (.initialized RX3 : Cond) ∈ UW := uw 27 (by decide +kernel) (by decide +kernel)
theorem u_in_RJ9 : (.initialized RJ9 : Cond) ∈ UW := uw 28 (by decide +kernel) (by decide +kernel)
theorem u_in_RX2 : (.initialized RX2 : Cond) ∈ UW := uw 29 (by decide +kernel) (by decide +kernel)
theorem u_in_RX4 : (.initialized RX4 : Cond) ∈ UW := uw 30 (by decide +kernel) (by decide +kernel)
theorem u_in_RJxa1e45 : (.initialized RJxa1e45 : Cond) ∈ UW := uw 31 (by decide +kernel) (by decide +kernel)
theorem u_in_RJxc12de : (.initialized RJxc12de : Cond) ∈ UW := uw 32 (by decide +kernel) (by decide +kernel)
theorem u_in_RJx4a65c : (.initialized RJx4a65c : Cond) ∈ UW := uw 33 (by decide +kernel) (by decide +kernel)
theorem u_in_java_lang_Throwable : (.initialized "java/lang/Throwable" : Cond) ∈ UW := uw 34 (by decide +kernel) (by decide +kernel)
theorem u_in_java_lang_Exception : (.initialized "java/lang/Exception" : Cond) ∈ UW := uw 35 (by decide +kernel) (by decide +kernel)
theorem u_in_java_lang_RuntimeException : (.initialized "java/lang/RuntimeException" : Cond) ∈ UW := uw 36 (by decide +kernel) (by decide +kernel)
theorem u_in_java_lang_IndexOutOfBoundsException : (.initialized "java/lang/IndexOutOfBoundsException" : Cond) ∈ UW := uw 37 (by decide +kernel) (by decide +kernel)
theorem u_in_java_lang_IllegalStateException : (.initialized "java/lang/IllegalStateException" : Cond) ∈ UW := uw 38 (by decide +kernel) (by decide +kernel)
theorem u_in_RJ15 : (.initialized RJ15 : Cond) ∈ UW := uw 39 (by decide +kernel) (by decide +kernel)
theorem u_in_RJ3 : (.initialized RJ3 : Cond) ∈ UW := uw 40 (by decide +kernel) (by decide +kernel)
theorem u_in_java_lang_IllegalArgumentException : (.initialized "java/lang/IllegalArgumentException" : Cond) ∈ UW := uw 41 (by decide +kernel) (by decide +kernel)
theorem u_in_RJ6 : (.initialized RJ6 : Cond) ∈ UW := uw 42 (by decide +kernel) (by decide +kernel)
theorem u_in_RX0 : (.initialized RX0 : Cond) ∈ UW := uw 43 (by decide +kernel) (by decide +kernel)
theorem u_in_RJ8 : (.initialized RJ8 : Cond) ∈ UW := uw 44 (by decide +kernel) (by decide +kernel)
theorem u_in_RJ7 : (.initialized RJ7 : Cond) ∈ UW := uw 45 (by decide +kernel) (by decide +kernel)
theorem u_in_RJ10 : (.initialized RJ10 : Cond) ∈ UW := uw 46 (by decide +kernel) (by decide +kernel)
theorem u_in_RX1 : (.initialized RX1 : Cond) ∈ UW := uw 47 (by decide +kernel) (by decide +kernel)
theorem u_cl_RL_11 : (.classLink RL 11 RX5 : Cond) ∈ UW := uw 48 (by decide +kernel) (by decide +kernel)
theorem u_is_RX5 : (.instantiable RX5 7 : Cond) ∈ UW := uw 49 (by decide +kernel) (by decide +kernel)
theorem u_ml_RL_135 : (.methodLink RL 135 yX5_init : Cond) ∈ UW := uw 50 (by decide +kernel) (by decide +kernel)
theorem u_im_yX5_init : (.instanceMethod yX5_init : Cond) ∈ UW := uw 51 (by decide +kernel) (by decide +kernel)
theorem u_co_yX5_init : (.code yX5_init cX5_init 4 (none) : Cond) ∈ UW := uw 52 (by decide +kernel) (by decide +kernel)
theorem u_ml_RX5_1 : (.methodLink RX5 1 objectInit : Cond) ∈ UW := uw 53 (by decide +kernel) (by decide +kernel)
theorem u_im_objectInit : (.instanceMethod objectInit : Cond) ∈ UW := uw 54 (by decide +kernel) (by decide +kernel)
theorem u_co_objectInit : (.code objectInit ⟨#[0xb1]⟩ 1 (none) : Cond) ∈ UW := uw 55 (by decide +kernel) (by decide +kernel)
theorem u_cl_RX5_7 : (.classLink RX5 7 RX3 : Cond) ∈ UW := uw 56 (by decide +kernel) (by decide +kernel)
theorem u_is_RX3 : (.instantiable RX3 7 : Cond) ∈ UW := uw 57 (by decide +kernel) (by decide +kernel)
theorem u_ml_RX5_11 : (.methodLink RX5 11 yX5_within : Cond) ∈ UW := uw 58 (by decide +kernel) (by decide +kernel)
theorem u_st_yX5_within : (.static yX5_within : Cond) ∈ UW := uw 59 (by decide +kernel) (by decide +kernel)
theorem u_co_yX5_within : (.code yX5_within cX5_within 2 (some FieldType.int) : Cond) ∈ UW := uw 60 (by decide +kernel) (by decide +kernel)
theorem u_ml_RX5_230 : (.methodLink RX5 230 yJ9_min_7cf53 : Cond) ∈ UW := uw 61 (by decide +kernel) (by decide +kernel)
theorem u_st_yJ9_min_7cf53 : (.static yJ9_min_7cf53 : Cond) ∈ UW := uw 62 (by decide +kernel) (by decide +kernel)
theorem u_co_yJ9_min_7cf53 : (.code yJ9_min_7cf53 cJ9_min_7cf53 2 (some FieldType.int) : Cond) ∈ UW := uw 63 (by decide +kernel) (by decide +kernel)
theorem u_ml_RX5_235 : (.methodLink RX5 235 yJ9_max_7cf53 : Cond) ∈ UW := uw 64 (by decide +kernel) (by decide +kernel)
theorem u_st_yJ9_max_7cf53 : (.static yJ9_max_7cf53 : Cond) ∈ UW := uw 65 (by decide +kernel) (by decide +kernel)
theorem u_co_yJ9_max_7cf53 : (.code yJ9_max_7cf53 cJ9_max_7cf53 2 (some FieldType.int) : Cond) ∈ UW := uw 66 (by decide +kernel) (by decide +kernel)
theorem u_ml_RX5_15 : (.methodLink RX5 15 yX3_init : Cond) ∈ UW := uw 67 (by decide +kernel) (by decide +kernel)
theorem u_im_yX3_init : (.instanceMethod yX3_init : Cond) ∈ UW := uw 68 (by decide +kernel) (by decide +kernel)
theorem u_co_yX3_init : (.code yX3_init cX3_init 5 (none) : Cond) ∈ UW := uw 69 (by decide +kernel) (by decide +kernel)
theorem u_ml_RX3_3 : (.methodLink RX3 3 objectInit : Cond) ∈ UW := uw 70 (by decide +kernel) (by decide +kernel)
theorem u_fl_RX3_24 : (.fieldLink RX3 24 "Aislewright$Warehouse" "aisles" "I" : Cond) ∈ UW := uw 71 (by decide +kernel) (by decide +kernel)
theorem u_fl_RX3_28 : (.fieldLink RX3 28 "Aislewright$Warehouse" "positions" "I" : Cond) ∈ UW := uw 72 (by decide +kernel) (by decide +kernel)
theorem u_fl_RX3_31 : (.fieldLink RX3 31 "Aislewright$Warehouse" "gap" "I" : Cond) ∈ UW := uw 73 (by decide +kernel) (by decide +kernel)
theorem n_fn_RX2_62 : (.fieldLinkNest RX2 62 "Aislewright$Warehouse" "gap" "I" RX5 : Cond) ∈ UN := un 74 (by decide +kernel) (by decide +kernel)
theorem u_fl_RX3_9 : (.fieldLink RX3 9 "Aislewright$Warehouse" "places" "[I" : Cond) ∈ UW := uw 75 (by decide +kernel) (by decide +kernel)
theorem n_fn_RX5_91 : (.fieldLinkNest RX5 91 "Aislewright$Warehouse" "places" "[I" RX5 : Cond) ∈ UN := un 76 (by decide +kernel) (by decide +kernel)
theorem n_fn_RX2_69 : (.fieldLinkNest RX2 69 "Aislewright$Warehouse" "places" "[I" RX5 : Cond) ∈ UN := un 77 (by decide +kernel) (by decide +kernel)
theorem u_fl_RX3_15 : (.fieldLink RX3 15 "Aislewright$Warehouse" "turnovers" "[I" : Cond) ∈ UW := uw 78 (by decide +kernel) (by decide +kernel)
theorem n_fn_RX5_95 : (.fieldLinkNest RX5 95 "Aislewright$Warehouse" "turnovers" "[I" RX5 : Cond) ∈ UN := un 79 (by decide +kernel) (by decide +kernel)
theorem u_fl_RX3_18 : (.fieldLink RX3 18 "Aislewright$Warehouse" "nearestPlaces" "[I" : Cond) ∈ UW := uw 80 (by decide +kernel) (by decide +kernel)
theorem u_fl_RX3_21 : (.fieldLink RX3 21 "Aislewright$Warehouse" "busiestProducts" "[I" : Cond) ∈ UW := uw 81 (by decide +kernel) (by decide +kernel)
theorem u_ac_97 : (.arrayClass (FieldType.int) : Cond) ∈ UW := uw 97 (by decide +kernel) (by decide +kernel)
theorem u_cl_RX5_22 : (.classLink RX5 22 RX2 : Cond) ∈ UW := uw 98 (by decide +kernel) (by decide +kernel)
theorem u_is_RX2 : (.instantiable RX2 5 : Cond) ∈ UW := uw 99 (by decide +kernel) (by decide +kernel)
theorem u_ml_RX5_24 : (.methodLink RX5 24 yX2_init : Cond) ∈ UW := uw 100 (by decide +kernel) (by decide +kernel)
theorem u_im_yX2_init : (.instanceMethod yX2_init : Cond) ∈ UW := uw 101 (by decide +kernel) (by decide +kernel)
theorem u_co_yX2_init : (.code yX2_init cX2_init 2 (none) : Cond) ∈ UW := uw 102 (by decide +kernel) (by decide +kernel)
theorem u_ml_RX2_3 : (.methodLink RX2 3 objectInit : Cond) ∈ UW := uw 103 (by decide +kernel) (by decide +kernel)
theorem u_cl_RX2_15 : (.classLink RX2 15 "[[I" : Cond) ∈ UW := uw 104 (by decide +kernel) (by decide +kernel)
theorem u_fl_RX2_23 : (.fieldLink RX2 23 "Aislewright$Router" "warehouse" "LAislewright$Warehouse;" : Cond) ∈ UW := uw 106 (by decide +kernel) (by decide +kernel)
theorem u_fl_RX2_9 : (.fieldLink RX2 9 "Aislewright$Router" "places" "[I" : Cond) ∈ UW := uw 107 (by decide +kernel) (by decide +kernel)
theorem u_fl_RX2_42 : (.fieldLink RX2 42 "Aislewright$Router" "count" "I" : Cond) ∈ UW := uw 108 (by decide +kernel) (by decide +kernel)
theorem u_fl_RX2_17 : (.fieldLink RX2 17 "Aislewright$Router" "ways" "[[I" : Cond) ∈ UW := uw 109 (by decide +kernel) (by decide +kernel)
theorem u_fl_RX2_20 : (.fieldLink RX2 20 "Aislewright$Router" "onward" "[I" : Cond) ∈ UW := uw 110 (by decide +kernel) (by decide +kernel)
theorem u_cl_RX5_31 : (.classLink RX5 31 RX4 : Cond) ∈ UW := uw 122 (by decide +kernel) (by decide +kernel)
theorem u_is_RX4 : (.instantiable RX4 3 : Cond) ∈ UW := uw 123 (by decide +kernel) (by decide +kernel)
theorem u_ml_RX5_33 : (.methodLink RX5 33 yX4_init : Cond) ∈ UW := uw 124 (by decide +kernel) (by decide +kernel)
theorem u_im_yX4_init : (.instanceMethod yX4_init : Cond) ∈ UW := uw 125 (by decide +kernel) (by decide +kernel)
theorem u_co_yX4_init : (.code yX4_init cX4_init 2 (none) : Cond) ∈ UW := uw 126 (by decide +kernel) (by decide +kernel)
theorem u_ml_RX4_3 : (.methodLink RX4 3 objectInit : Cond) ∈ UW := uw 127 (by decide +kernel) (by decide +kernel)
theorem u_cl_RX4_9 : (.classLink RX4 9 RJx4a65c : Cond) ∈ UW := uw 128 (by decide +kernel) (by decide +kernel)
theorem u_is_RJx4a65c : (.instantiable RJx4a65c 3 : Cond) ∈ UW := uw 129 (by decide +kernel) (by decide +kernel)
theorem u_ml_RX4_11 : (.methodLink RX4 11 yJx4a65c_init_da8c8 : Cond) ∈ UW := uw 130 (by decide +kernel) (by decide +kernel)
theorem u_im_yJx4a65c_init_da8c8 : (.instanceMethod yJx4a65c_init_da8c8 : Cond) ∈ UW := uw 131 (by decide +kernel) (by decide +kernel)
theorem u_co_yJx4a65c_init_da8c8 : (.code yJx4a65c_init_da8c8 cJx4a65c_init_da8c8 1 (none) : Cond) ∈ UW := uw 132 (by decide +kernel) (by decide +kernel)
theorem u_ml_RJx4a65c_1 : (.methodLink RJx4a65c 1 yJxc12de_init_da8c8 : Cond) ∈ UW := uw 133 (by decide +kernel) (by decide +kernel)
theorem u_im_yJxc12de_init_da8c8 : (.instanceMethod yJxc12de_init_da8c8 : Cond) ∈ UW := uw 134 (by decide +kernel) (by decide +kernel)
theorem u_co_yJxc12de_init_da8c8 : (.code yJxc12de_init_da8c8 cJxc12de_init_da8c8 1 (none) : Cond) ∈ UW := uw 135 (by decide +kernel) (by decide +kernel)
theorem u_ml_RJxc12de_1 : (.methodLink RJxc12de 1 yJxa1e45_init_da8c8 : Cond) ∈ UW := uw 136 (by decide +kernel) (by decide +kernel)
theorem u_im_yJxa1e45_init_da8c8 : (.instanceMethod yJxa1e45_init_da8c8 : Cond) ∈ UW := uw 137 (by decide +kernel) (by decide +kernel)
theorem u_co_yJxa1e45_init_da8c8 : (.code yJxa1e45_init_da8c8 cJxa1e45_init_da8c8 1 (none) : Cond) ∈ UW := uw 138 (by decide +kernel) (by decide +kernel)
theorem u_ml_RJxa1e45_1 : (.methodLink RJxa1e45 1 objectInit : Cond) ∈ UW := uw 139 (by decide +kernel) (by decide +kernel)
theorem u_fl_RJx4a65c_39 : (.fieldLink RJx4a65c 39 "java/util/ArrayList" "DEFAULTCAPACITY_EMPTY_ELEMENTDATA" "[Ljava/lang/Object;" : Cond) ∈ UW := uw 140 (by decide +kernel) (by decide +kernel)
theorem u_fl_RJx4a65c_9 : (.fieldLink RJx4a65c 9 "java/util/ArrayList" "elementData" "[Ljava/lang/Object;" : Cond) ∈ UW := uw 142 (by decide +kernel) (by decide +kernel)
theorem u_fl_RJx4a65c_48 : (.fieldLink RJx4a65c 48 "java/util/ArrayList" "size" "I" : Cond) ∈ UW := uw 143 (by decide +kernel) (by decide +kernel)
theorem u_fl_RJxc12de_7 : (.fieldLink RJxc12de 7 "java/util/AbstractList" "modCount" "I" : Cond) ∈ UW := uw 144 (by decide +kernel) (by decide +kernel)
theorem u_fl_RJx4a65c_63 : (.fieldLink RJx4a65c 63 "java/util/ArrayList" "modCount" "I" : Cond) ∈ UW := uw 145 (by decide +kernel) (by decide +kernel)
theorem u_sf_146 : (.sameField "java/util/ArrayList" "java/util/AbstractList" "modCount" "I" : Cond) ∈ UW := uw 146 (by decide +kernel) (by decide +kernel)
theorem u_cl_RX4_18 : (.classLink RX4 18 "[[I" : Cond) ∈ UW := uw 154 (by decide +kernel) (by decide +kernel)
theorem u_fl_RX4_23 : (.fieldLink RX4 23 "Aislewright$Wave" "router" "LAislewright$Router;" : Cond) ∈ UW := uw 155 (by decide +kernel) (by decide +kernel)
theorem u_fl_RX4_12 : (.fieldLink RX4 12 "Aislewright$Wave" "batches" "Ljava/util/ArrayList;" : Cond) ∈ UW := uw 156 (by decide +kernel) (by decide +kernel)
theorem n_fn_RX5_246 : (.fieldLinkNest RX5 246 "Aislewright$Wave" "batches" "Ljava/util/ArrayList;" RX5 : Cond) ∈ UN := un 157 (by decide +kernel) (by decide +kernel)
theorem u_fl_RX4_20 : (.fieldLink RX4 20 "Aislewright$Wave" "savings" "[[I" : Cond) ∈ UW := uw 158 (by decide +kernel) (by decide +kernel)
theorem u_cl_RX5_40 : (.classLink RX5 40 RJx4a65c : Cond) ∈ UW := uw 166 (by decide +kernel) (by decide +kernel)
theorem u_ml_RX5_42 : (.methodLink RX5 42 yJx4a65c_init_da8c8 : Cond) ∈ UW := uw 167 (by decide +kernel) (by decide +kernel)
theorem u_fl_RX5_18 : (.fieldLink RX5 18 "Aislewright" "warehouse" "LAislewright$Warehouse;" : Cond) ∈ UW := uw 168 (by decide +kernel) (by decide +kernel)
theorem u_fl_RX5_27 : (.fieldLink RX5 27 "Aislewright" "router" "LAislewright$Router;" : Cond) ∈ UW := uw 169 (by decide +kernel) (by decide +kernel)
theorem u_fl_RX5_36 : (.fieldLink RX5 36 "Aislewright" "wave" "LAislewright$Wave;" : Cond) ∈ UW := uw 170 (by decide +kernel) (by decide +kernel)
theorem u_fl_RX5_43 : (.fieldLink RX5 43 "Aislewright" "book" "Ljava/util/ArrayList;" : Cond) ∈ UW := uw 171 (by decide +kernel) (by decide +kernel)
theorem u_fl_RX5_47 : (.fieldLink RX5 47 "Aislewright" "capacity" "I" : Cond) ∈ UW := uw 172 (by decide +kernel) (by decide +kernel)
theorem u_fl_RX5_193 : (.fieldLink RX5 193 "Aislewright" "walked" "I" : Cond) ∈ UW := uw 173 (by decide +kernel) (by decide +kernel)
theorem u_fl_RX5_227 : (.fieldLink RX5 227 "Aislewright" "walkedAlone" "I" : Cond) ∈ UW := uw 174 (by decide +kernel) (by decide +kernel)
theorem u_ml_RL_138 : (.methodLink RL 138 yX5_order : Cond) ∈ UW := uw 190 (by decide +kernel) (by decide +kernel)
theorem u_im_yX5_order : (.instanceMethod yX5_order : Cond) ∈ UW := uw 191 (by decide +kernel) (by decide +kernel)
theorem u_se_yX5_order : (.selects RX5 yX5_order yX5_order : Cond) ∈ UW := uw 192 (by decide +kernel) (by decide +kernel)
theorem u_co_yX5_order : (.code yX5_order cX5_order 2 (some FieldType.int) : Cond) ∈ UW := uw 193 (by decide +kernel) (by decide +kernel)
theorem u_ml_RX5_103 : (.methodLink RX5 103 yX5_checkTime : Cond) ∈ UW := uw 194 (by decide +kernel) (by decide +kernel)
theorem u_st_yX5_checkTime : (.static yX5_checkTime : Cond) ∈ UW := uw 195 (by decide +kernel) (by decide +kernel)
theorem u_co_yX5_checkTime : (.code yX5_checkTime cX5_checkTime 1 (none) : Cond) ∈ UW := uw 196 (by decide +kernel) (by decide +kernel)
theorem u_cl_RX5_123 : (.classLink RX5 123 "java/lang/IllegalArgumentException" : Cond) ∈ UW := uw 197 (by decide +kernel) (by decide +kernel)
theorem u_is_java_lang_IllegalArgumentException : (.instantiable "java/lang/IllegalArgumentException" 6 : Cond) ∈ UW := uw 198 (by decide +kernel) (by decide +kernel)
theorem n_ca_java_lang_IllegalArgumentException_java_lang_IllegalArgumentException : (.castable "java/lang/IllegalArgumentException" "java/lang/IllegalArgumentException" : Cond) ∈ UN := un 199 (by decide +kernel) (by decide +kernel)
theorem u_fl_java_lang_Throwable_198 : (.fieldLink "java/lang/Throwable" 198 "java/lang/Throwable" "backtrace" "Ljava/lang/Object;" : Cond) ∈ UW := uw 218 (by decide +kernel) (by decide +kernel)
theorem u_ml_java_lang_Throwable_1 : (.methodLink "java/lang/Throwable" 1 objectInit : Cond) ∈ UW := uw 222 (by decide +kernel) (by decide +kernel)
theorem u_fl_java_lang_Throwable_13 : (.fieldLink "java/lang/Throwable" 13 "java/lang/Throwable" "UNASSIGNED_STACK" "[Ljava/lang/StackTraceElement;" : Cond) ∈ UW := uw 223 (by decide +kernel) (by decide +kernel)
theorem u_fl_java_lang_Throwable_20 : (.fieldLink "java/lang/Throwable" 20 "java/lang/Throwable" "SUPPRESSED_SENTINEL" "Ljava/util/List;" : Cond) ∈ UW := uw 225 (by decide +kernel) (by decide +kernel)
theorem u_is_java_lang_Throwable : (.instantiable "java/lang/Throwable" 6 : Cond) ∈ UW := uw 236 (by decide +kernel) (by decide +kernel)
theorem u_ml_RX5_127 : (.methodLink RX5 127 ⟨"java/lang/IllegalArgumentException", "<init>", "(Ljava/lang/String;)V"⟩ : Cond) ∈ UW := uw 239 (by decide +kernel) (by decide +kernel)
theorem u_ml_java_lang_IllegalArgumentException_7 : (.methodLink "java/lang/IllegalArgumentException" 7 ⟨"java/lang/RuntimeException", "<init>", "(Ljava/lang/String;)V"⟩ : Cond) ∈ UW := uw 242 (by decide +kernel) (by decide +kernel)
theorem u_ml_java_lang_RuntimeException_7 : (.methodLink "java/lang/RuntimeException" 7 ⟨"java/lang/Exception", "<init>", "(Ljava/lang/String;)V"⟩ : Cond) ∈ UW := uw 245 (by decide +kernel) (by decide +kernel)
theorem u_ml_java_lang_Exception_7 : (.methodLink "java/lang/Exception" 7 ⟨"java/lang/Throwable", "<init>", "(Ljava/lang/String;)V"⟩ : Cond) ∈ UW := uw 248 (by decide +kernel) (by decide +kernel)
theorem u_fl_java_lang_Throwable_198_251 : (.fieldLink "java/lang/Throwable" 198 "java/lang/Throwable" "backtrace" "Ljava/lang/Object;" : Cond) ∈ UW := uw 251 (by decide +kernel) (by decide +kernel)
theorem u_fl_java_lang_Throwable_31 : (.fieldLink "java/lang/Throwable" 31 "java/lang/Throwable" "detailMessage" "Ljava/lang/String;" : Cond) ∈ UW := uw 252 (by decide +kernel) (by decide +kernel)
theorem u_fl_java_lang_Throwable_7 : (.fieldLink "java/lang/Throwable" 7 "java/lang/Throwable" "cause" "Ljava/lang/Throwable;" : Cond) ∈ UW := uw 253 (by decide +kernel) (by decide +kernel)
theorem u_fl_java_lang_Throwable_17 : (.fieldLink "java/lang/Throwable" 17 "java/lang/Throwable" "stackTrace" "[Ljava/lang/StackTraceElement;" : Cond) ∈ UW := uw 254 (by decide +kernel) (by decide +kernel)
theorem u_fl_java_lang_Throwable_24 : (.fieldLink "java/lang/Throwable" 24 "java/lang/Throwable" "suppressedExceptions" "Ljava/util/List;" : Cond) ∈ UW := uw 255 (by decide +kernel) (by decide +kernel)
theorem u_ac_264 : (.arrayClass (FieldType.byte) : Cond) ∈ UW := uw 264 (by decide +kernel) (by decide +kernel)
theorem u_ml_RX5_106 : (.methodLink RX5 106 yJx4a65c_size_8abf5 : Cond) ∈ UW := uw 265 (by decide +kernel) (by decide +kernel)
theorem u_im_yJx4a65c_size_8abf5 : (.instanceMethod yJx4a65c_size_8abf5 : Cond) ∈ UW := uw 266 (by decide +kernel) (by decide +kernel)
theorem u_se_yJx4a65c_size_8abf5 : (.selects RJx4a65c yJx4a65c_size_8abf5 yJx4a65c_size_8abf5 : Cond) ∈ UW := uw 267 (by decide +kernel) (by decide +kernel)
theorem u_co_yJx4a65c_size_8abf5 : (.code yJx4a65c_size_8abf5 cJx4a65c_size_8abf5 1 (some FieldType.int) : Cond) ∈ UW := uw 268 (by decide +kernel) (by decide +kernel)
theorem u_cl_RX5_77 : (.classLink RX5 77 "java/lang/IllegalStateException" : Cond) ∈ UW := uw 269 (by decide +kernel) (by decide +kernel)
theorem u_is_java_lang_IllegalStateException : (.instantiable "java/lang/IllegalStateException" 6 : Cond) ∈ UW := uw 270 (by decide +kernel) (by decide +kernel)
theorem n_ca_java_lang_IllegalStateException_java_lang_IllegalStateException : (.castable "java/lang/IllegalStateException" "java/lang/IllegalStateException" : Cond) ∈ UN := un 271 (by decide +kernel) (by decide +kernel)
theorem u_ml_RX5_81 : (.methodLink RX5 81 ⟨"java/lang/IllegalStateException", "<init>", "(Ljava/lang/String;)V"⟩ : Cond) ∈ UW := uw 279 (by decide +kernel) (by decide +kernel)
theorem u_ml_java_lang_IllegalStateException_7 : (.methodLink "java/lang/IllegalStateException" 7 ⟨"java/lang/RuntimeException", "<init>", "(Ljava/lang/String;)V"⟩ : Cond) ∈ UW := uw 282 (by decide +kernel) (by decide +kernel)
theorem u_cl_RX5_111 : (.classLink RX5 111 RX1 : Cond) ∈ UW := uw 285 (by decide +kernel) (by decide +kernel)
theorem u_is_RX1 : (.instantiable RX1 4 : Cond) ∈ UW := uw 286 (by decide +kernel) (by decide +kernel)
theorem u_ml_RX5_113 : (.methodLink RX5 113 yX1_init : Cond) ∈ UW := uw 287 (by decide +kernel) (by decide +kernel)
theorem u_im_yX1_init : (.instanceMethod yX1_init : Cond) ∈ UW := uw 288 (by decide +kernel) (by decide +kernel)
theorem u_co_yX1_init : (.code yX1_init cX1_init 2 (none) : Cond) ∈ UW := uw 289 (by decide +kernel) (by decide +kernel)
theorem u_ml_RX1_3 : (.methodLink RX1 3 objectInit : Cond) ∈ UW := uw 290 (by decide +kernel) (by decide +kernel)
theorem u_fl_RX1_19 : (.fieldLink RX1 19 "Aislewright$Order" "due" "I" : Cond) ∈ UW := uw 291 (by decide +kernel) (by decide +kernel)
theorem u_fl_RX1_9 : (.fieldLink RX1 9 "Aislewright$Order" "quantities" "[I" : Cond) ∈ UW := uw 292 (by decide +kernel) (by decide +kernel)
theorem n_fn_RX3_48 : (.fieldLinkNest RX3 48 "Aislewright$Order" "quantities" "[I" RX5 : Cond) ∈ UN := un 293 (by decide +kernel) (by decide +kernel)
theorem n_fn_RX0_23 : (.fieldLinkNest RX0 23 "Aislewright$Order" "products" "I" RX5 : Cond) ∈ UN := un 294 (by decide +kernel) (by decide +kernel)
theorem u_fl_RX1_22 : (.fieldLink RX1 22 "Aislewright$Order" "products" "I" : Cond) ∈ UW := uw 295 (by decide +kernel) (by decide +kernel)
theorem n_fn_RX4_37 : (.fieldLinkNest RX4 37 "Aislewright$Order" "products" "I" RX5 : Cond) ∈ UN := un 296 (by decide +kernel) (by decide +kernel)
theorem n_fn_RX5_147 : (.fieldLinkNest RX5 147 "Aislewright$Order" "products" "I" RX5 : Cond) ∈ UN := un 297 (by decide +kernel) (by decide +kernel)
theorem u_fl_RX1_15 : (.fieldLink RX1 15 "Aislewright$Order" "state" "I" : Cond) ∈ UW := uw 298 (by decide +kernel) (by decide +kernel)
theorem n_fn_RX5_144 : (.fieldLinkNest RX5 144 "Aislewright$Order" "state" "I" RX5 : Cond) ∈ UN := un 299 (by decide +kernel) (by decide +kernel)
theorem u_ml_RX5_115 : (.methodLink RX5 115 yJx4a65c_add_9ea2d : Cond) ∈ UW := uw 309 (by decide +kernel) (by decide +kernel)
theorem u_im_yJx4a65c_add_9ea2d : (.instanceMethod yJx4a65c_add_9ea2d : Cond) ∈ UW := uw 310 (by decide +kernel) (by decide +kernel)
theorem u_se_yJx4a65c_add_9ea2d : (.selects RJx4a65c yJx4a65c_add_9ea2d yJx4a65c_add_9ea2d : Cond) ∈ UW := uw 311 (by decide +kernel) (by decide +kernel)
theorem u_co_yJx4a65c_add_9ea2d : (.code yJx4a65c_add_9ea2d cJx4a65c_add_9ea2d 2 (some FieldType.boolean) : Cond) ∈ UW := uw 312 (by decide +kernel) (by decide +kernel)
theorem u_ml_RJx4a65c_131 : (.methodLink RJx4a65c 131 yJx4a65c_add_72be8 : Cond) ∈ UW := uw 313 (by decide +kernel) (by decide +kernel)
theorem u_im_yJx4a65c_add_72be8 : (.instanceMethod yJx4a65c_add_72be8 : Cond) ∈ UW := uw 315 (by decide +kernel) (by decide +kernel)
theorem u_co_yJx4a65c_add_72be8 : (.code yJx4a65c_add_72be8 cJx4a65c_add_72be8 4 (none) : Cond) ∈ UW := uw 316 (by decide +kernel) (by decide +kernel)
theorem u_ml_RJx4a65c_129 : (.methodLink RJx4a65c 129 yJx4a65c_grow_d5877 : Cond) ∈ UW := uw 317 (by decide +kernel) (by decide +kernel)
theorem u_im_yJx4a65c_grow_d5877 : (.instanceMethod yJx4a65c_grow_d5877 : Cond) ∈ UW := uw 319 (by decide +kernel) (by decide +kernel)
theorem u_co_yJx4a65c_grow_d5877 : (.code yJx4a65c_grow_d5877 cJx4a65c_grow_d5877 1 (some (FieldType.array (FieldType.object "java/lang/Object"))) : Cond) ∈ UW := uw 320 (by decide +kernel) (by decide +kernel)
theorem u_ml_RJx4a65c_69 : (.methodLink RJx4a65c 69 yJx4a65c_grow_92f84 : Cond) ∈ UW := uw 321 (by decide +kernel) (by decide +kernel)
theorem u_im_yJx4a65c_grow_92f84 : (.instanceMethod yJx4a65c_grow_92f84 : Cond) ∈ UW := uw 323 (by decide +kernel) (by decide +kernel)
theorem u_co_yJx4a65c_grow_92f84 : (.code yJx4a65c_grow_92f84 cJx4a65c_grow_92f84 4 (some (FieldType.array (FieldType.object "java/lang/Object"))) : Cond) ∈ UW := uw 324 (by decide +kernel) (by decide +kernel)
theorem u_ml_RJx4a65c_73 : (.methodLink RJx4a65c 73 yJ8_newLength_cabcc : Cond) ∈ UW := uw 325 (by decide +kernel) (by decide +kernel)
theorem u_st_yJ8_newLength_cabcc : (.static yJ8_newLength_cabcc : Cond) ∈ UW := uw 326 (by decide +kernel) (by decide +kernel)
theorem u_co_yJ8_newLength_cabcc : (.code yJ8_newLength_cabcc cJ8_newLength_cabcc 4 (some FieldType.int) : Cond) ∈ UW := uw 327 (by decide +kernel) (by decide +kernel)
theorem u_ml_RJ8_194 : (.methodLink RJ8 194 yJ9_max_7cf53 : Cond) ∈ UW := uw 328 (by decide +kernel) (by decide +kernel)
theorem u_ct_RJ8_200 : (.constant RJ8 200 (2147483639 : Int32) : Cond) ∈ UW := uw 329 (by decide +kernel) (by decide +kernel)
theorem u_ml_RJ8_201 : (.methodLink RJ8 201 yJ8_hugeLength_7cf53 : Cond) ∈ UW := uw 330 (by decide +kernel) (by decide +kernel)
theorem u_st_yJ8_hugeLength_7cf53 : (.static yJ8_hugeLength_7cf53 : Cond) ∈ UW := uw 331 (by decide +kernel) (by decide +kernel)
theorem u_co_yJ8_hugeLength_7cf53 : (.code yJ8_hugeLength_7cf53 cJ8_hugeLength_7cf53 3 (some FieldType.int) : Cond) ∈ UW := uw 332 (by decide +kernel) (by decide +kernel)
theorem u_ml_RJx4a65c_66 : (.methodLink RJx4a65c 66 yJ7_copyOf_1904c : Cond) ∈ UW := uw 333 (by decide +kernel) (by decide +kernel)
theorem u_st_yJ7_copyOf_1904c : (.static yJ7_copyOf_1904c : Cond) ∈ UW := uw 334 (by decide +kernel) (by decide +kernel)
theorem u_co_yJ7_copyOf_1904c : (.code yJ7_copyOf_1904c cJ7_copyOf_1904c 2 (some (FieldType.array (FieldType.object "java/lang/Object"))) : Cond) ∈ UW := uw 335 (by decide +kernel) (by decide +kernel)
theorem u_ml_RJ7_300 : (.methodLink RJ7 300 yJ7_copyOf_6403c : Cond) ∈ UW := uw 350 (by decide +kernel) (by decide +kernel)
theorem u_st_yJ7_copyOf_6403c : (.static yJ7_copyOf_6403c : Cond) ∈ UW := uw 351 (by decide +kernel) (by decide +kernel)
theorem u_co_yJ7_copyOf_6403c : (.code yJ7_copyOf_6403c cJ7_copyOf_6403c 4 (some (FieldType.array (FieldType.object "java/lang/Object"))) : Cond) ∈ UW := uw 352 (by decide +kernel) (by decide +kernel)
theorem u_cl_RJ7_110 : (.classLink RJ7 110 "[Ljava/lang/Object;" : Cond) ∈ UW := uw 353 (by decide +kernel) (by decide +kernel)
theorem u_cl_RJ7_2 : (.classLink RJ7 2 "java/lang/Object" : Cond) ∈ UW := uw 355 (by decide +kernel) (by decide +kernel)
theorem u_ml_RJ7_304 : (.methodLink RJ7 304 yJ9_min_7cf53 : Cond) ∈ UW := uw 356 (by decide +kernel) (by decide +kernel)
theorem u_ml_RJx4a65c_79 : (.methodLink RJx4a65c 79 yJ9_max_7cf53 : Cond) ∈ UW := uw 360 (by decide +kernel) (by decide +kernel)
theorem u_cl_RJx4a65c_7 : (.classLink RJx4a65c 7 "java/lang/Object" : Cond) ∈ UW := uw 361 (by decide +kernel) (by decide +kernel)
theorem u_ml_RL_131 : (.methodLink RL 131 yL_cell : Cond) ∈ UW := uw 362 (by decide +kernel) (by decide +kernel)
theorem u_st_yL_cell : (.static yL_cell : Cond) ∈ UW := uw 363 (by decide +kernel) (by decide +kernel)
theorem u_co_yL_cell : (.code yL_cell cL_cell 2 (some FieldType.int) : Cond) ∈ UW := uw 364 (by decide +kernel) (by decide +kernel)
theorem u_ct_RL_7 : (.constant RL 7 (48353 : Int32) : Cond) ∈ UW := uw 365 (by decide +kernel) (by decide +kernel)
theorem u_ct_RL_8 : (.constant RL 8 (2605541 : Int32) : Cond) ∈ UW := uw 366 (by decide +kernel) (by decide +kernel)
theorem u_ml_RL_125 : (.methodLink RL 125 yL_low : Cond) ∈ UW := uw 367 (by decide +kernel) (by decide +kernel)
theorem u_st_yL_low : (.static yL_low : Cond) ∈ UW := uw 368 (by decide +kernel) (by decide +kernel)
theorem u_co_yL_low : (.code yL_low cL_low 2 (some FieldType.int) : Cond) ∈ UW := uw 369 (by decide +kernel) (by decide +kernel)
theorem u_ct_RL_9 : (.constant RL 9 (2147483647 : Int32) : Cond) ∈ UW := uw 370 (by decide +kernel) (by decide +kernel)
theorem u_ml_RL_89 : (.methodLink RL 89 yL_calls : Cond) ∈ UW := uw 371 (by decide +kernel) (by decide +kernel)
theorem u_st_yL_calls : (.static yL_calls : Cond) ∈ UW := uw 372 (by decide +kernel) (by decide +kernel)
theorem u_cl_RL_40 : (.classLink RL 40 "java/lang/IndexOutOfBoundsException" : Cond) ∈ UW := uw 374 (by decide +kernel) (by decide +kernel)
theorem u_cl_RL_42 : (.classLink RL 42 "java/lang/IllegalArgumentException" : Cond) ∈ UW := uw 375 (by decide +kernel) (by decide +kernel)
theorem u_cl_RL_44 : (.classLink RL 44 "java/lang/IllegalStateException" : Cond) ∈ UW := uw 376 (by decide +kernel) (by decide +kernel)
theorem u_ml_RL_10 : (.methodLink RL 10 yX5_put : Cond) ∈ UW := uw 377 (by decide +kernel) (by decide +kernel)
theorem u_im_yX5_put : (.instanceMethod yX5_put : Cond) ∈ UW := uw 378 (by decide +kernel) (by decide +kernel)
theorem u_se_yX5_put : (.selects RX5 yX5_put yX5_put : Cond) ∈ UW := uw 379 (by decide +kernel) (by decide +kernel)
theorem u_co_yX5_put : (.code yX5_put cX5_put 6 (some FieldType.int) : Cond) ∈ UW := uw 380 (by decide +kernel) (by decide +kernel)
theorem u_ml_RX5_51 : (.methodLink RX5 51 yX5_checkProduct : Cond) ∈ UW := uw 381 (by decide +kernel) (by decide +kernel)
theorem u_st_yX5_checkProduct : (.static yX5_checkProduct : Cond) ∈ UW := uw 382 (by decide +kernel) (by decide +kernel)
theorem u_co_yX5_checkProduct : (.code yX5_checkProduct cX5_checkProduct 1 (none) : Cond) ∈ UW := uw 383 (by decide +kernel) (by decide +kernel)
theorem u_cl_RX5_62 : (.classLink RX5 62 "java/lang/IndexOutOfBoundsException" : Cond) ∈ UW := uw 384 (by decide +kernel) (by decide +kernel)
theorem u_is_java_lang_IndexOutOfBoundsException : (.instantiable "java/lang/IndexOutOfBoundsException" 6 : Cond) ∈ UW := uw 385 (by decide +kernel) (by decide +kernel)
theorem n_ca_java_lang_IndexOutOfBoundsException_java_lang_IndexOutOfBoundsException : (.castable "java/lang/IndexOutOfBoundsException" "java/lang/IndexOutOfBoundsException" : Cond) ∈ UN := un 386 (by decide +kernel) (by decide +kernel)
theorem u_ml_RX5_66 : (.methodLink RX5 66 ⟨"java/lang/IndexOutOfBoundsException", "<init>", "(Ljava/lang/String;)V"⟩ : Cond) ∈ UW := uw 394 (by decide +kernel) (by decide +kernel)
theorem u_ml_java_lang_IndexOutOfBoundsException_7 : (.methodLink "java/lang/IndexOutOfBoundsException" 7 ⟨"java/lang/RuntimeException", "<init>", "(Ljava/lang/String;)V"⟩ : Cond) ∈ UW := uw 397 (by decide +kernel) (by decide +kernel)
theorem u_ml_RX5_55 : (.methodLink RX5 55 yX3_hasAisle : Cond) ∈ UW := uw 400 (by decide +kernel) (by decide +kernel)
theorem u_im_yX3_hasAisle : (.instanceMethod yX3_hasAisle : Cond) ∈ UW := uw 401 (by decide +kernel) (by decide +kernel)
theorem u_se_yX3_hasAisle : (.selects RX3 yX3_hasAisle yX3_hasAisle : Cond) ∈ UW := uw 402 (by decide +kernel) (by decide +kernel)
theorem u_co_yX3_hasAisle : (.code yX3_hasAisle cX3_hasAisle 2 (some FieldType.boolean) : Cond) ∈ UW := uw 403 (by decide +kernel) (by decide +kernel)
theorem u_ml_RX5_59 : (.methodLink RX5 59 yX3_hasPosition : Cond) ∈ UW := uw 404 (by decide +kernel) (by decide +kernel)
theorem u_im_yX3_hasPosition : (.instanceMethod yX3_hasPosition : Cond) ∈ UW := uw 405 (by decide +kernel) (by decide +kernel)
theorem u_se_yX3_hasPosition : (.selects RX3 yX3_hasPosition yX3_hasPosition : Cond) ∈ UW := uw 406 (by decide +kernel) (by decide +kernel)
theorem u_co_yX3_hasPosition : (.code yX3_hasPosition cX3_hasPosition 2 (some FieldType.boolean) : Cond) ∈ UW := uw 407 (by decide +kernel) (by decide +kernel)
theorem u_ml_RX5_69 : (.methodLink RX5 69 yX3_productAt : Cond) ∈ UW := uw 409 (by decide +kernel) (by decide +kernel)
theorem u_im_yX3_productAt : (.instanceMethod yX3_productAt : Cond) ∈ UW := uw 410 (by decide +kernel) (by decide +kernel)
theorem u_se_yX3_productAt : (.selects RX3 yX3_productAt yX3_productAt : Cond) ∈ UW := uw 411 (by decide +kernel) (by decide +kernel)
theorem u_co_yX3_productAt : (.code yX3_productAt cX3_productAt 3 (some FieldType.int) : Cond) ∈ UW := uw 412 (by decide +kernel) (by decide +kernel)
theorem u_ml_RX5_73 : (.methodLink RX5 73 yX4_isOn : Cond) ∈ UW := uw 413 (by decide +kernel) (by decide +kernel)
theorem u_im_yX4_isOn : (.instanceMethod yX4_isOn : Cond) ∈ UW := uw 414 (by decide +kernel) (by decide +kernel)
theorem u_se_yX4_isOn : (.selects RX4 yX4_isOn yX4_isOn : Cond) ∈ UW := uw 415 (by decide +kernel) (by decide +kernel)
theorem u_co_yX4_isOn : (.code yX4_isOn cX4_isOn 1 (some FieldType.boolean) : Cond) ∈ UW := uw 416 (by decide +kernel) (by decide +kernel)
theorem u_ml_RX4_27 : (.methodLink RX4 27 yJx4a65c_isEmpty_aae02 : Cond) ∈ UW := uw 417 (by decide +kernel) (by decide +kernel)
theorem u_im_yJx4a65c_isEmpty_aae02 : (.instanceMethod yJx4a65c_isEmpty_aae02 : Cond) ∈ UW := uw 418 (by decide +kernel) (by decide +kernel)
theorem u_se_yJx4a65c_isEmpty_aae02 : (.selects RJx4a65c yJx4a65c_isEmpty_aae02 yJx4a65c_isEmpty_aae02 : Cond) ∈ UW := uw 419 (by decide +kernel) (by decide +kernel)
theorem u_co_yJx4a65c_isEmpty_aae02 : (.code yJx4a65c_isEmpty_aae02 cJx4a65c_isEmpty_aae02 1 (some FieldType.boolean) : Cond) ∈ UW := uw 420 (by decide +kernel) (by decide +kernel)
theorem u_ml_RX5_82 : (.methodLink RX5 82 yX3_move : Cond) ∈ UW := uw 422 (by decide +kernel) (by decide +kernel)
theorem u_im_yX3_move : (.instanceMethod yX3_move : Cond) ∈ UW := uw 423 (by decide +kernel) (by decide +kernel)
theorem u_se_yX3_move : (.selects RX3 yX3_move yX3_move : Cond) ∈ UW := uw 424 (by decide +kernel) (by decide +kernel)
theorem u_co_yX3_move : (.code yX3_move cX3_move 4 (some FieldType.int) : Cond) ∈ UW := uw 425 (by decide +kernel) (by decide +kernel)
theorem u_ml_RL_16 : (.methodLink RL 16 yX5_layOut : Cond) ∈ UW := uw 426 (by decide +kernel) (by decide +kernel)
theorem u_im_yX5_layOut : (.instanceMethod yX5_layOut : Cond) ∈ UW := uw 427 (by decide +kernel) (by decide +kernel)
theorem u_se_yX5_layOut : (.selects RX5 yX5_layOut yX5_layOut : Cond) ∈ UW := uw 428 (by decide +kernel) (by decide +kernel)
theorem u_co_yX5_layOut : (.code yX5_layOut cX5_layOut 1 (some FieldType.int) : Cond) ∈ UW := uw 429 (by decide +kernel) (by decide +kernel)
theorem u_ml_RX5_87 : (.methodLink RX5 87 yX3_rearrange : Cond) ∈ UW := uw 431 (by decide +kernel) (by decide +kernel)
theorem u_im_yX3_rearrange : (.instanceMethod yX3_rearrange : Cond) ∈ UW := uw 432 (by decide +kernel) (by decide +kernel)
theorem u_se_yX3_rearrange : (.selects RX3 yX3_rearrange yX3_rearrange : Cond) ∈ UW := uw 433 (by decide +kernel) (by decide +kernel)
theorem u_co_yX3_rearrange : (.code yX3_rearrange cX3_rearrange 4 (some FieldType.int) : Cond) ∈ UW := uw 434 (by decide +kernel) (by decide +kernel)
theorem u_ml_RX3_53 : (.methodLink RX3 53 yX3_insertPlace : Cond) ∈ UW := uw 435 (by decide +kernel) (by decide +kernel)
theorem u_im_yX3_insertPlace : (.instanceMethod yX3_insertPlace : Cond) ∈ UW := uw 437 (by decide +kernel) (by decide +kernel)
theorem u_co_yX3_insertPlace : (.code yX3_insertPlace cX3_insertPlace 4 (none) : Cond) ∈ UW := uw 438 (by decide +kernel) (by decide +kernel)
theorem u_ml_RX3_63 : (.methodLink RX3 63 yX3_isNearer : Cond) ∈ UW := uw 439 (by decide +kernel) (by decide +kernel)
theorem u_im_yX3_isNearer : (.instanceMethod yX3_isNearer : Cond) ∈ UW := uw 441 (by decide +kernel) (by decide +kernel)
theorem u_co_yX3_isNearer : (.code yX3_isNearer cX3_isNearer 5 (some FieldType.boolean) : Cond) ∈ UW := uw 442 (by decide +kernel) (by decide +kernel)
theorem u_ml_RX3_67 : (.methodLink RX3 67 yX3_between : Cond) ∈ UW := uw 443 (by decide +kernel) (by decide +kernel)
theorem u_im_yX3_between : (.instanceMethod yX3_between : Cond) ∈ UW := uw 444 (by decide +kernel) (by decide +kernel)
theorem u_se_yX3_between : (.selects RX3 yX3_between yX3_between : Cond) ∈ UW := uw 445 (by decide +kernel) (by decide +kernel)
theorem u_co_yX3_between : (.code yX3_between cX3_between 8 (some FieldType.int) : Cond) ∈ UW := uw 446 (by decide +kernel) (by decide +kernel)
theorem u_ml_RX3_34 : (.methodLink RX3 34 yJ9_abs_0f7a4 : Cond) ∈ UW := uw 447 (by decide +kernel) (by decide +kernel)
theorem u_st_yJ9_abs_0f7a4 : (.static yJ9_abs_0f7a4 : Cond) ∈ UW := uw 448 (by decide +kernel) (by decide +kernel)
theorem u_co_yJ9_abs_0f7a4 : (.code yJ9_abs_0f7a4 cJ9_abs_0f7a4 1 (some FieldType.int) : Cond) ∈ UW := uw 449 (by decide +kernel) (by decide +kernel)
theorem u_ml_RX3_40 : (.methodLink RX3 40 yX3_depth : Cond) ∈ UW := uw 450 (by decide +kernel) (by decide +kernel)
theorem u_im_yX3_depth : (.instanceMethod yX3_depth : Cond) ∈ UW := uw 451 (by decide +kernel) (by decide +kernel)
theorem u_se_yX3_depth : (.selects RX3 yX3_depth yX3_depth : Cond) ∈ UW := uw 452 (by decide +kernel) (by decide +kernel)
theorem u_co_yX3_depth : (.code yX3_depth cX3_depth 1 (some FieldType.int) : Cond) ∈ UW := uw 453 (by decide +kernel) (by decide +kernel)
theorem u_ml_RX3_44 : (.methodLink RX3 44 yJ9_min_7cf53 : Cond) ∈ UW := uw 454 (by decide +kernel) (by decide +kernel)
theorem u_ml_RX3_57 : (.methodLink RX3 57 yX3_insertProduct : Cond) ∈ UW := uw 455 (by decide +kernel) (by decide +kernel)
theorem u_im_yX3_insertProduct : (.instanceMethod yX3_insertProduct : Cond) ∈ UW := uw 457 (by decide +kernel) (by decide +kernel)
theorem u_co_yX3_insertProduct : (.code yX3_insertProduct cX3_insertProduct 4 (none) : Cond) ∈ UW := uw 458 (by decide +kernel) (by decide +kernel)
theorem u_ml_RX3_60 : (.methodLink RX3 60 yX3_move : Cond) ∈ UW := uw 459 (by decide +kernel) (by decide +kernel)
theorem u_ml_RL_20 : (.methodLink RL 20 yX5_line : Cond) ∈ UW := uw 460 (by decide +kernel) (by decide +kernel)
theorem u_im_yX5_line : (.instanceMethod yX5_line : Cond) ∈ UW := uw 461 (by decide +kernel) (by decide +kernel)
theorem u_se_yX5_line : (.selects RX5 yX5_line yX5_line : Cond) ∈ UW := uw 462 (by decide +kernel) (by decide +kernel)
theorem u_co_yX5_line : (.code yX5_line cX5_line 5 (some FieldType.int) : Cond) ∈ UW := uw 463 (by decide +kernel) (by decide +kernel)
theorem u_ml_RX5_119 : (.methodLink RX5 119 yX5_orderNumbered : Cond) ∈ UW := uw 464 (by decide +kernel) (by decide +kernel)
theorem u_im_yX5_orderNumbered : (.instanceMethod yX5_orderNumbered : Cond) ∈ UW := uw 466 (by decide +kernel) (by decide +kernel)
theorem u_co_yX5_orderNumbered : (.code yX5_orderNumbered cX5_orderNumbered 2 (some (FieldType.object "Aislewright$Order")) : Cond) ∈ UW := uw 467 (by decide +kernel) (by decide +kernel)
theorem u_ml_RX5_165 : (.methodLink RX5 165 yJx4a65c_get_915e3 : Cond) ∈ UW := uw 469 (by decide +kernel) (by decide +kernel)
theorem u_im_yJx4a65c_get_915e3 : (.instanceMethod yJx4a65c_get_915e3 : Cond) ∈ UW := uw 470 (by decide +kernel) (by decide +kernel)
theorem u_se_yJx4a65c_get_915e3 : (.selects RJx4a65c yJx4a65c_get_915e3 yJx4a65c_get_915e3 : Cond) ∈ UW := uw 471 (by decide +kernel) (by decide +kernel)
theorem u_co_yJx4a65c_get_915e3 : (.code yJx4a65c_get_915e3 cJx4a65c_get_915e3 2 (some (FieldType.object "java/lang/Object")) : Cond) ∈ UW := uw 472 (by decide +kernel) (by decide +kernel)
theorem u_ml_RJx4a65c_118 : (.methodLink RJx4a65c 118 yJ15_checkIndex_7cf53 : Cond) ∈ UW := uw 473 (by decide +kernel) (by decide +kernel)
theorem u_st_yJ15_checkIndex_7cf53 : (.static yJ15_checkIndex_7cf53 : Cond) ∈ UW := uw 474 (by decide +kernel) (by decide +kernel)
theorem u_co_yJ15_checkIndex_7cf53 : (.code yJ15_checkIndex_7cf53 cJ15_checkIndex_7cf53 2 (some FieldType.int) : Cond) ∈ UW := uw 475 (by decide +kernel) (by decide +kernel)
theorem u_ml_RJ15_105 : (.methodLink RJ15 105 yJ3_checkIndex_8e157 : Cond) ∈ UW := uw 476 (by decide +kernel) (by decide +kernel)
theorem u_st_yJ3_checkIndex_8e157 : (.static yJ3_checkIndex_8e157 : Cond) ∈ UW := uw 477 (by decide +kernel) (by decide +kernel)
theorem u_co_yJ3_checkIndex_8e157 : (.code yJ3_checkIndex_8e157 cJ3_checkIndex_8e157 3 (some FieldType.int) : Cond) ∈ UW := uw 478 (by decide +kernel) (by decide +kernel)
theorem u_ml_RJx4a65c_123 : (.methodLink RJx4a65c 123 yJx4a65c_elementData_915e3 : Cond) ∈ UW := uw 479 (by decide +kernel) (by decide +kernel)
theorem u_im_yJx4a65c_elementData_915e3 : (.instanceMethod yJx4a65c_elementData_915e3 : Cond) ∈ UW := uw 480 (by decide +kernel) (by decide +kernel)
theorem u_se_yJx4a65c_elementData_915e3 : (.selects RJx4a65c yJx4a65c_elementData_915e3 yJx4a65c_elementData_915e3 : Cond) ∈ UW := uw 481 (by decide +kernel) (by decide +kernel)
theorem u_co_yJx4a65c_elementData_915e3 : (.code yJx4a65c_elementData_915e3 cJx4a65c_elementData_915e3 2 (some (FieldType.object "java/lang/Object")) : Cond) ∈ UW := uw 482 (by decide +kernel) (by decide +kernel)
theorem u_ml_RX5_128 : (.methodLink RX5 128 yX5_takesLine : Cond) ∈ UW := uw 484 (by decide +kernel) (by decide +kernel)
theorem u_im_yX5_takesLine : (.instanceMethod yX5_takesLine : Cond) ∈ UW := uw 486 (by decide +kernel) (by decide +kernel)
theorem u_co_yX5_takesLine : (.code yX5_takesLine cX5_takesLine 3 (some FieldType.boolean) : Cond) ∈ UW := uw 487 (by decide +kernel) (by decide +kernel)
theorem u_ml_RX5_141 : (.methodLink RX5 141 yX1_countLines : Cond) ∈ UW := uw 488 (by decide +kernel) (by decide +kernel)
theorem u_im_yX1_countLines : (.instanceMethod yX1_countLines : Cond) ∈ UW := uw 489 (by decide +kernel) (by decide +kernel)
theorem u_se_yX1_countLines : (.selects RX1 yX1_countLines yX1_countLines : Cond) ∈ UW := uw 490 (by decide +kernel) (by decide +kernel)
theorem u_co_yX1_countLines : (.code yX1_countLines cX1_countLines 1 (some FieldType.int) : Cond) ∈ UW := uw 491 (by decide +kernel) (by decide +kernel)
theorem u_ml_RX1_29 : (.methodLink RX1 29 yJ6_bitCount_0f7a4 : Cond) ∈ UW := uw 492 (by decide +kernel) (by decide +kernel)
theorem u_st_yJ6_bitCount_0f7a4 : (.static yJ6_bitCount_0f7a4 : Cond) ∈ UW := uw 493 (by decide +kernel) (by decide +kernel)
theorem u_co_yJ6_bitCount_0f7a4 : (.code yJ6_bitCount_0f7a4 cJ6_bitCount_0f7a4 1 (some FieldType.int) : Cond) ∈ UW := uw 494 (by decide +kernel) (by decide +kernel)
theorem u_ct_RJ6_265 : (.constant RJ6 265 (1431655765 : Int32) : Cond) ∈ UW := uw 495 (by decide +kernel) (by decide +kernel)
theorem u_ct_RJ6_266 : (.constant RJ6 266 (858993459 : Int32) : Cond) ∈ UW := uw 496 (by decide +kernel) (by decide +kernel)
theorem u_ct_RJ6_267 : (.constant RJ6 267 (252645135 : Int32) : Cond) ∈ UW := uw 497 (by decide +kernel) (by decide +kernel)
theorem u_ml_RX5_132 : (.methodLink RX5 132 yX1_asksFor : Cond) ∈ UW := uw 498 (by decide +kernel) (by decide +kernel)
theorem u_im_yX1_asksFor : (.instanceMethod yX1_asksFor : Cond) ∈ UW := uw 499 (by decide +kernel) (by decide +kernel)
theorem u_se_yX1_asksFor : (.selects RX1 yX1_asksFor yX1_asksFor : Cond) ∈ UW := uw 500 (by decide +kernel) (by decide +kernel)
theorem u_co_yX1_asksFor : (.code yX1_asksFor cX1_asksFor 2 (some FieldType.boolean) : Cond) ∈ UW := uw 501 (by decide +kernel) (by decide +kernel)
theorem n_mn_RX1_25 : (.methodLinkNest RX1 25 yX5_isIn RX5 : Cond) ∈ UN := un 502 (by decide +kernel) (by decide +kernel)
theorem u_st_yX5_isIn : (.static yX5_isIn : Cond) ∈ UW := uw 503 (by decide +kernel) (by decide +kernel)
theorem u_co_yX5_isIn : (.code yX5_isIn cX5_isIn 2 (some FieldType.boolean) : Cond) ∈ UW := uw 504 (by decide +kernel) (by decide +kernel)
theorem u_ml_RX5_137 : (.methodLink RX5 137 yX1_addLine : Cond) ∈ UW := uw 506 (by decide +kernel) (by decide +kernel)
theorem u_im_yX1_addLine : (.instanceMethod yX1_addLine : Cond) ∈ UW := uw 507 (by decide +kernel) (by decide +kernel)
theorem u_se_yX1_addLine : (.selects RX1 yX1_addLine yX1_addLine : Cond) ∈ UW := uw 508 (by decide +kernel) (by decide +kernel)
theorem u_co_yX1_addLine : (.code yX1_addLine cX1_addLine 3 (none) : Cond) ∈ UW := uw 509 (by decide +kernel) (by decide +kernel)
theorem u_ml_RL_23 : (.methodLink RL 23 yX5_setCapacity : Cond) ∈ UW := uw 510 (by decide +kernel) (by decide +kernel)
theorem u_im_yX5_setCapacity : (.instanceMethod yX5_setCapacity : Cond) ∈ UW := uw 511 (by decide +kernel) (by decide +kernel)
theorem u_se_yX5_setCapacity : (.selects RX5 yX5_setCapacity yX5_setCapacity : Cond) ∈ UW := uw 512 (by decide +kernel) (by decide +kernel)
theorem u_co_yX5_setCapacity : (.code yX5_setCapacity cX5_setCapacity 3 (some FieldType.int) : Cond) ∈ UW := uw 513 (by decide +kernel) (by decide +kernel)
theorem u_ml_RX5_155 : (.methodLink RX5 155 yX5_mostLinesToDo : Cond) ∈ UW := uw 515 (by decide +kernel) (by decide +kernel)
theorem u_im_yX5_mostLinesToDo : (.instanceMethod yX5_mostLinesToDo : Cond) ∈ UW := uw 517 (by decide +kernel) (by decide +kernel)
theorem u_co_yX5_mostLinesToDo : (.code yX5_mostLinesToDo cX5_mostLinesToDo 4 (some FieldType.int) : Cond) ∈ UW := uw 518 (by decide +kernel) (by decide +kernel)
theorem u_ml_RL_27 : (.methodLink RL 27 yX5_planWave : Cond) ∈ UW := uw 520 (by decide +kernel) (by decide +kernel)
theorem u_im_yX5_planWave : (.instanceMethod yX5_planWave : Cond) ∈ UW := uw 521 (by decide +kernel) (by decide +kernel)
theorem u_se_yX5_planWave : (.selects RX5 yX5_planWave yX5_planWave : Cond) ∈ UW := uw 522 (by decide +kernel) (by decide +kernel)
theorem u_co_yX5_planWave : (.code yX5_planWave cX5_planWave 4 (some FieldType.int) : Cond) ∈ UW := uw 523 (by decide +kernel) (by decide +kernel)
theorem u_ml_RX5_160 : (.methodLink RX5 160 yX5_takesAnyOrder : Cond) ∈ UW := uw 524 (by decide +kernel) (by decide +kernel)
theorem u_im_yX5_takesAnyOrder : (.instanceMethod yX5_takesAnyOrder : Cond) ∈ UW := uw 526 (by decide +kernel) (by decide +kernel)
theorem u_co_yX5_takesAnyOrder : (.code yX5_takesAnyOrder cX5_takesAnyOrder 3 (some FieldType.boolean) : Cond) ∈ UW := uw 527 (by decide +kernel) (by decide +kernel)
theorem u_ml_RX5_169 : (.methodLink RX5 169 yX1_isTakenAt : Cond) ∈ UW := uw 528 (by decide +kernel) (by decide +kernel)
theorem u_im_yX1_isTakenAt : (.instanceMethod yX1_isTakenAt : Cond) ∈ UW := uw 529 (by decide +kernel) (by decide +kernel)
theorem u_se_yX1_isTakenAt : (.selects RX1 yX1_isTakenAt yX1_isTakenAt : Cond) ∈ UW := uw 530 (by decide +kernel) (by decide +kernel)
theorem u_co_yX1_isTakenAt : (.code yX1_isTakenAt cX1_isTakenAt 2 (some FieldType.boolean) : Cond) ∈ UW := uw 531 (by decide +kernel) (by decide +kernel)
theorem u_ml_RX5_172 : (.methodLink RX5 172 yX4_take : Cond) ∈ UW := uw 533 (by decide +kernel) (by decide +kernel)
theorem u_im_yX4_take : (.instanceMethod yX4_take : Cond) ∈ UW := uw 534 (by decide +kernel) (by decide +kernel)
theorem u_se_yX4_take : (.selects RX4 yX4_take yX4_take : Cond) ∈ UW := uw 535 (by decide +kernel) (by decide +kernel)
theorem u_co_yX4_take : (.code yX4_take cX4_take 3 (none) : Cond) ∈ UW := uw 536 (by decide +kernel) (by decide +kernel)
theorem u_cl_RX4_35 : (.classLink RX4 35 RX0 : Cond) ∈ UW := uw 537 (by decide +kernel) (by decide +kernel)
theorem u_is_RX0 : (.instantiable RX0 6 : Cond) ∈ UW := uw 538 (by decide +kernel) (by decide +kernel)
theorem u_ml_RX4_31 : (.methodLink RX4 31 yJx4a65c_size_8abf5 : Cond) ∈ UW := uw 539 (by decide +kernel) (by decide +kernel)
theorem u_ml_RX4_43 : (.methodLink RX4 43 yX2_leastLength : Cond) ∈ UW := uw 540 (by decide +kernel) (by decide +kernel)
theorem u_im_yX2_leastLength : (.instanceMethod yX2_leastLength : Cond) ∈ UW := uw 541 (by decide +kernel) (by decide +kernel)
theorem u_se_yX2_leastLength : (.selects RX2 yX2_leastLength yX2_leastLength : Cond) ∈ UW := uw 542 (by decide +kernel) (by decide +kernel)
theorem u_co_yX2_leastLength : (.code yX2_leastLength cX2_leastLength 2 (some FieldType.int) : Cond) ∈ UW := uw 543 (by decide +kernel) (by decide +kernel)
theorem u_ml_RX2_27 : (.methodLink RX2 27 yX2_gather : Cond) ∈ UW := uw 544 (by decide +kernel) (by decide +kernel)
theorem u_im_yX2_gather : (.instanceMethod yX2_gather : Cond) ∈ UW := uw 546 (by decide +kernel) (by decide +kernel)
theorem u_co_yX2_gather : (.code yX2_gather cX2_gather 5 (none) : Cond) ∈ UW := uw 547 (by decide +kernel) (by decide +kernel)
theorem n_mn_RX2_65 : (.methodLinkNest RX2 65 yX5_isIn RX5 : Cond) ∈ UN := un 548 (by decide +kernel) (by decide +kernel)
theorem u_ml_RX2_70 : (.methodLink RX2 70 yX2_insertPlace : Cond) ∈ UW := uw 549 (by decide +kernel) (by decide +kernel)
theorem u_im_yX2_insertPlace : (.instanceMethod yX2_insertPlace : Cond) ∈ UW := uw 551 (by decide +kernel) (by decide +kernel)
theorem u_co_yX2_insertPlace : (.code yX2_insertPlace cX2_insertPlace 3 (none) : Cond) ∈ UW := uw 552 (by decide +kernel) (by decide +kernel)
theorem u_ml_RX2_73 : (.methodLink RX2 73 yX3_between : Cond) ∈ UW := uw 553 (by decide +kernel) (by decide +kernel)
theorem u_ml_RX2_31 : (.methodLink RX2 31 yX2_fillOnward : Cond) ∈ UW := uw 554 (by decide +kernel) (by decide +kernel)
theorem u_im_yX2_fillOnward : (.instanceMethod yX2_fillOnward : Cond) ∈ UW := uw 556 (by decide +kernel) (by decide +kernel)
theorem u_co_yX2_fillOnward : (.code yX2_fillOnward cX2_fillOnward 4 (none) : Cond) ∈ UW := uw 557 (by decide +kernel) (by decide +kernel)
theorem u_ml_RX2_38 : (.methodLink RX2 38 yX2_leastOnward : Cond) ∈ UW := uw 558 (by decide +kernel) (by decide +kernel)
theorem u_im_yX2_leastOnward : (.instanceMethod yX2_leastOnward : Cond) ∈ UW := uw 560 (by decide +kernel) (by decide +kernel)
theorem u_co_yX2_leastOnward : (.code yX2_leastOnward cX2_leastOnward 5 (some FieldType.int) : Cond) ∈ UW := uw 561 (by decide +kernel) (by decide +kernel)
theorem u_ct_RX2_49 : (.constant RX2 49 (1000000 : Int32) : Cond) ∈ UW := uw 562 (by decide +kernel) (by decide +kernel)
theorem u_ml_RX2_76 : (.methodLink RX2 76 yX2_lengthBy : Cond) ∈ UW := uw 563 (by decide +kernel) (by decide +kernel)
theorem u_im_yX2_lengthBy : (.instanceMethod yX2_lengthBy : Cond) ∈ UW := uw 565 (by decide +kernel) (by decide +kernel)
theorem u_co_yX2_lengthBy : (.code yX2_lengthBy cX2_lengthBy 5 (some FieldType.int) : Cond) ∈ UW := uw 566 (by decide +kernel) (by decide +kernel)
theorem u_ml_RX2_80 : (.methodLink RX2 80 yJ9_min_7cf53 : Cond) ∈ UW := uw 567 (by decide +kernel) (by decide +kernel)
theorem u_ml_RX2_34 : (.methodLink RX2 34 yX2_everyPlace : Cond) ∈ UW := uw 568 (by decide +kernel) (by decide +kernel)
theorem u_im_yX2_everyPlace : (.instanceMethod yX2_everyPlace : Cond) ∈ UW := uw 570 (by decide +kernel) (by decide +kernel)
theorem u_co_yX2_everyPlace : (.code yX2_everyPlace cX2_everyPlace 1 (some FieldType.int) : Cond) ∈ UW := uw 571 (by decide +kernel) (by decide +kernel)
theorem u_ml_RX4_49 : (.methodLink RX4 49 yX0_init : Cond) ∈ UW := uw 572 (by decide +kernel) (by decide +kernel)
theorem u_im_yX0_init : (.instanceMethod yX0_init : Cond) ∈ UW := uw 573 (by decide +kernel) (by decide +kernel)
theorem u_co_yX0_init : (.code yX0_init cX0_init 5 (none) : Cond) ∈ UW := uw 574 (by decide +kernel) (by decide +kernel)
theorem u_ml_RX0_3 : (.methodLink RX0 3 objectInit : Cond) ∈ UW := uw 575 (by decide +kernel) (by decide +kernel)
theorem u_ml_RX0_29 : (.methodLink RX0 29 yX1_countLines : Cond) ∈ UW := uw 576 (by decide +kernel) (by decide +kernel)
theorem u_fl_RX0_15 : (.fieldLink RX0 15 "Aislewright$Batch" "row" "I" : Cond) ∈ UW := uw 577 (by decide +kernel) (by decide +kernel)
theorem n_fn_RX4_82 : (.fieldLinkNest RX4 82 "Aislewright$Batch" "row" "I" RX5 : Cond) ∈ UN := un 578 (by decide +kernel) (by decide +kernel)
theorem u_fl_RX0_19 : (.fieldLink RX0 19 "Aislewright$Batch" "orderBits" "J" : Cond) ∈ UW := uw 579 (by decide +kernel) (by decide +kernel)
theorem u_fl_RX0_28 : (.fieldLink RX0 28 "Aislewright$Batch" "products" "I" : Cond) ∈ UW := uw 580 (by decide +kernel) (by decide +kernel)
theorem n_fn_RX4_67 : (.fieldLinkNest RX4 67 "Aislewright$Batch" "products" "I" RX5 : Cond) ∈ UN := un 581 (by decide +kernel) (by decide +kernel)
theorem n_fn_RX5_213 : (.fieldLinkNest RX5 213 "Aislewright$Batch" "products" "I" RX5 : Cond) ∈ UN := un 582 (by decide +kernel) (by decide +kernel)
theorem u_fl_RX0_33 : (.fieldLink RX0 33 "Aislewright$Batch" "lines" "I" : Cond) ∈ UW := uw 583 (by decide +kernel) (by decide +kernel)
theorem n_fn_RX4_76 : (.fieldLinkNest RX4 76 "Aislewright$Batch" "lines" "I" RX5 : Cond) ∈ UN := un 584 (by decide +kernel) (by decide +kernel)
theorem n_fn_RX5_205 : (.fieldLinkNest RX5 205 "Aislewright$Batch" "lines" "I" RX5 : Cond) ∈ UN := un 585 (by decide +kernel) (by decide +kernel)
theorem u_fl_RX0_36 : (.fieldLink RX0 36 "Aislewright$Batch" "length" "I" : Cond) ∈ UW := uw 586 (by decide +kernel) (by decide +kernel)
theorem n_fn_RX4_79 : (.fieldLinkNest RX4 79 "Aislewright$Batch" "length" "I" RX5 : Cond) ∈ UN := un 587 (by decide +kernel) (by decide +kernel)
theorem n_fn_RX5_196 : (.fieldLinkNest RX5 196 "Aislewright$Batch" "length" "I" RX5 : Cond) ∈ UN := un 588 (by decide +kernel) (by decide +kernel)
theorem u_fl_RX0_9 : (.fieldLink RX0 9 "Aislewright$Batch" "route" "[I" : Cond) ∈ UW := uw 589 (by decide +kernel) (by decide +kernel)
theorem n_fn_RX4_72 : (.fieldLinkNest RX4 72 "Aislewright$Batch" "route" "[I" RX5 : Cond) ∈ UN := un 590 (by decide +kernel) (by decide +kernel)
theorem n_fn_RX5_208 : (.fieldLinkNest RX5 208 "Aislewright$Batch" "route" "[I" RX5 : Cond) ∈ UN := un 591 (by decide +kernel) (by decide +kernel)
theorem u_ml_RX4_52 : (.methodLink RX4 52 yJx4a65c_add_9ea2d : Cond) ∈ UW := uw 605 (by decide +kernel) (by decide +kernel)
theorem u_ml_RX5_176 : (.methodLink RX5 176 yX4_join : Cond) ∈ UW := uw 606 (by decide +kernel) (by decide +kernel)
theorem u_im_yX4_join : (.instanceMethod yX4_join : Cond) ∈ UW := uw 607 (by decide +kernel) (by decide +kernel)
theorem u_se_yX4_join : (.selects RX4 yX4_join yX4_join : Cond) ∈ UW := uw 608 (by decide +kernel) (by decide +kernel)
theorem u_co_yX4_join : (.code yX4_join cX4_join 5 (none) : Cond) ∈ UW := uw 609 (by decide +kernel) (by decide +kernel)
theorem u_ml_RX4_56 : (.methodLink RX4 56 yX4_noteSaving : Cond) ∈ UW := uw 610 (by decide +kernel) (by decide +kernel)
theorem u_im_yX4_noteSaving : (.instanceMethod yX4_noteSaving : Cond) ∈ UW := uw 612 (by decide +kernel) (by decide +kernel)
theorem u_co_yX4_noteSaving : (.code yX4_noteSaving cX4_noteSaving 7 (none) : Cond) ∈ UW := uw 613 (by decide +kernel) (by decide +kernel)
theorem u_ml_RX4_63 : (.methodLink RX4 63 yJx4a65c_get_915e3 : Cond) ∈ UW := uw 614 (by decide +kernel) (by decide +kernel)
theorem u_ml_RX4_60 : (.methodLink RX4 60 yX4_joinBestPair : Cond) ∈ UW := uw 615 (by decide +kernel) (by decide +kernel)
theorem u_im_yX4_joinBestPair : (.instanceMethod yX4_joinBestPair : Cond) ∈ UW := uw 617 (by decide +kernel) (by decide +kernel)
theorem u_co_yX4_joinBestPair : (.code yX4_joinBestPair cX4_joinBestPair 7 (some FieldType.int) : Cond) ∈ UW := uw 618 (by decide +kernel) (by decide +kernel)
theorem u_ml_RX4_85 : (.methodLink RX4 85 yX4_savingOf : Cond) ∈ UW := uw 619 (by decide +kernel) (by decide +kernel)
theorem u_im_yX4_savingOf : (.instanceMethod yX4_savingOf : Cond) ∈ UW := uw 621 (by decide +kernel) (by decide +kernel)
theorem u_co_yX4_savingOf : (.code yX4_savingOf cX4_savingOf 3 (some FieldType.int) : Cond) ∈ UW := uw 622 (by decide +kernel) (by decide +kernel)
theorem u_ml_RX4_89 : (.methodLink RX4 89 yX0_absorb : Cond) ∈ UW := uw 623 (by decide +kernel) (by decide +kernel)
theorem u_im_yX0_absorb : (.instanceMethod yX0_absorb : Cond) ∈ UW := uw 624 (by decide +kernel) (by decide +kernel)
theorem u_se_yX0_absorb : (.selects RX0 yX0_absorb yX0_absorb : Cond) ∈ UW := uw 625 (by decide +kernel) (by decide +kernel)
theorem u_co_yX0_absorb : (.code yX0_absorb cX0_absorb 3 (none) : Cond) ∈ UW := uw 626 (by decide +kernel) (by decide +kernel)
theorem u_ml_RX4_93 : (.methodLink RX4 93 yJx4a65c_remove_915e3 : Cond) ∈ UW := uw 627 (by decide +kernel) (by decide +kernel)
theorem u_im_yJx4a65c_remove_915e3 : (.instanceMethod yJx4a65c_remove_915e3 : Cond) ∈ UW := uw 628 (by decide +kernel) (by decide +kernel)
theorem u_se_yJx4a65c_remove_915e3 : (.selects RJx4a65c yJx4a65c_remove_915e3 yJx4a65c_remove_915e3 : Cond) ∈ UW := uw 629 (by decide +kernel) (by decide +kernel)
theorem u_co_yJx4a65c_remove_915e3 : (.code yJx4a65c_remove_915e3 cJx4a65c_remove_915e3 4 (some (FieldType.object "java/lang/Object")) : Cond) ∈ UW := uw 630 (by decide +kernel) (by decide +kernel)
theorem u_ml_RJx4a65c_144 : (.methodLink RJx4a65c 144 yJx4a65c_fastRemove_b59b0 : Cond) ∈ UW := uw 631 (by decide +kernel) (by decide +kernel)
theorem u_im_yJx4a65c_fastRemove_b59b0 : (.instanceMethod yJx4a65c_fastRemove_b59b0 : Cond) ∈ UW := uw 633 (by decide +kernel) (by decide +kernel)
theorem u_co_yJx4a65c_fastRemove_b59b0 : (.code yJx4a65c_fastRemove_b59b0 cJx4a65c_fastRemove_b59b0 4 (none) : Cond) ∈ UW := uw 634 (by decide +kernel) (by decide +kernel)
theorem u_ml_RX4_68 : (.methodLink RX4 68 yX2_bestRoute : Cond) ∈ UW := uw 636 (by decide +kernel) (by decide +kernel)
theorem u_im_yX2_bestRoute : (.instanceMethod yX2_bestRoute : Cond) ∈ UW := uw 637 (by decide +kernel) (by decide +kernel)
theorem u_se_yX2_bestRoute : (.selects RX2 yX2_bestRoute yX2_bestRoute : Cond) ∈ UW := uw 638 (by decide +kernel) (by decide +kernel)
theorem u_co_yX2_bestRoute : (.code yX2_bestRoute cX2_bestRoute 6 (some (FieldType.array FieldType.int)) : Cond) ∈ UW := uw 639 (by decide +kernel) (by decide +kernel)
theorem u_ml_RX2_46 : (.methodLink RX2 46 yX2_bestNext : Cond) ∈ UW := uw 640 (by decide +kernel) (by decide +kernel)
theorem u_im_yX2_bestNext : (.instanceMethod yX2_bestNext : Cond) ∈ UW := uw 642 (by decide +kernel) (by decide +kernel)
theorem u_co_yX2_bestNext : (.code yX2_bestNext cX2_bestNext 6 (some FieldType.int) : Cond) ∈ UW := uw 643 (by decide +kernel) (by decide +kernel)
theorem u_ml_RX5_179 : (.methodLink RX5 179 yX4_size : Cond) ∈ UW := uw 644 (by decide +kernel) (by decide +kernel)
theorem u_im_yX4_size : (.instanceMethod yX4_size : Cond) ∈ UW := uw 645 (by decide +kernel) (by decide +kernel)
theorem u_se_yX4_size : (.selects RX4 yX4_size yX4_size : Cond) ∈ UW := uw 646 (by decide +kernel) (by decide +kernel)
theorem u_co_yX4_size : (.code yX4_size cX4_size 1 (some FieldType.int) : Cond) ∈ UW := uw 647 (by decide +kernel) (by decide +kernel)
theorem u_ml_RL_30 : (.methodLink RL 30 yX5_pick : Cond) ∈ UW := uw 648 (by decide +kernel) (by decide +kernel)
theorem u_im_yX5_pick : (.instanceMethod yX5_pick : Cond) ∈ UW := uw 649 (by decide +kernel) (by decide +kernel)
theorem u_se_yX5_pick : (.selects RX5 yX5_pick yX5_pick : Cond) ∈ UW := uw 650 (by decide +kernel) (by decide +kernel)
theorem u_co_yX5_pick : (.code yX5_pick cX5_pick 4 (some FieldType.int) : Cond) ∈ UW := uw 651 (by decide +kernel) (by decide +kernel)
theorem u_ml_RX5_180 : (.methodLink RX5 180 yX5_batchNumbered : Cond) ∈ UW := uw 652 (by decide +kernel) (by decide +kernel)
theorem u_im_yX5_batchNumbered : (.instanceMethod yX5_batchNumbered : Cond) ∈ UW := uw 654 (by decide +kernel) (by decide +kernel)
theorem u_co_yX5_batchNumbered : (.code yX5_batchNumbered cX5_batchNumbered 2 (some (FieldType.object "Aislewright$Batch")) : Cond) ∈ UW := uw 655 (by decide +kernel) (by decide +kernel)
theorem u_cl_RX5_185 : (.classLink RX5 185 RX0 : Cond) ∈ UW := uw 657 (by decide +kernel) (by decide +kernel)
theorem u_ml_RX5_184 : (.methodLink RX5 184 yX0_holds : Cond) ∈ UW := uw 658 (by decide +kernel) (by decide +kernel)
theorem u_im_yX0_holds : (.instanceMethod yX0_holds : Cond) ∈ UW := uw 659 (by decide +kernel) (by decide +kernel)
theorem u_se_yX0_holds : (.selects RX0 yX0_holds yX0_holds : Cond) ∈ UW := uw 660 (by decide +kernel) (by decide +kernel)
theorem u_co_yX0_holds : (.code yX0_holds cX0_holds 2 (some FieldType.boolean) : Cond) ∈ UW := uw 661 (by decide +kernel) (by decide +kernel)
theorem u_ml_RX5_189 : (.methodLink RX5 189 yX5_finish : Cond) ∈ UW := uw 662 (by decide +kernel) (by decide +kernel)
theorem u_im_yX5_finish : (.instanceMethod yX5_finish : Cond) ∈ UW := uw 664 (by decide +kernel) (by decide +kernel)
theorem u_co_yX5_finish : (.code yX5_finish cX5_finish 2 (none) : Cond) ∈ UW := uw 665 (by decide +kernel) (by decide +kernel)
theorem u_ml_RX5_150 : (.methodLink RX5 150 yX2_leastLength : Cond) ∈ UW := uw 666 (by decide +kernel) (by decide +kernel)
theorem u_ml_RX5_249 : (.methodLink RX5 249 yX3_addTurnover : Cond) ∈ UW := uw 667 (by decide +kernel) (by decide +kernel)
theorem u_im_yX3_addTurnover : (.instanceMethod yX3_addTurnover : Cond) ∈ UW := uw 668 (by decide +kernel) (by decide +kernel)
theorem u_se_yX3_addTurnover : (.selects RX3 yX3_addTurnover yX3_addTurnover : Cond) ∈ UW := uw 669 (by decide +kernel) (by decide +kernel)
theorem u_co_yX3_addTurnover : (.code yX3_addTurnover cX3_addTurnover 3 (none) : Cond) ∈ UW := uw 670 (by decide +kernel) (by decide +kernel)
theorem u_ml_RX5_199 : (.methodLink RX5 199 yX4_drop : Cond) ∈ UW := uw 671 (by decide +kernel) (by decide +kernel)
theorem u_im_yX4_drop : (.instanceMethod yX4_drop : Cond) ∈ UW := uw 672 (by decide +kernel) (by decide +kernel)
theorem u_se_yX4_drop : (.selects RX4 yX4_drop yX4_drop : Cond) ∈ UW := uw 673 (by decide +kernel) (by decide +kernel)
theorem u_co_yX4_drop : (.code yX4_drop cX4_drop 2 (none) : Cond) ∈ UW := uw 674 (by decide +kernel) (by decide +kernel)
theorem u_ml_RL_33 : (.methodLink RL 33 yX5_distance : Cond) ∈ UW := uw 675 (by decide +kernel) (by decide +kernel)
theorem u_im_yX5_distance : (.instanceMethod yX5_distance : Cond) ∈ UW := uw 676 (by decide +kernel) (by decide +kernel)
theorem u_se_yX5_distance : (.selects RX5 yX5_distance yX5_distance : Cond) ∈ UW := uw 677 (by decide +kernel) (by decide +kernel)
theorem u_co_yX5_distance : (.code yX5_distance cX5_distance 5 (some FieldType.int) : Cond) ∈ UW := uw 678 (by decide +kernel) (by decide +kernel)
theorem u_ml_RX5_100 : (.methodLink RX5 100 yX3_between : Cond) ∈ UW := uw 680 (by decide +kernel) (by decide +kernel)
theorem u_ml_RL_37 : (.methodLink RL 37 yX5_stopAt : Cond) ∈ UW := uw 681 (by decide +kernel) (by decide +kernel)
theorem u_im_yX5_stopAt : (.instanceMethod yX5_stopAt : Cond) ∈ UW := uw 682 (by decide +kernel) (by decide +kernel)
theorem u_se_yX5_stopAt : (.selects RX5 yX5_stopAt yX5_stopAt : Cond) ∈ UW := uw 683 (by decide +kernel) (by decide +kernel)
theorem u_co_yX5_stopAt : (.code yX5_stopAt cX5_stopAt 4 (some FieldType.int) : Cond) ∈ UW := uw 684 (by decide +kernel) (by decide +kernel)
theorem u_ml_RL_46 : (.methodLink RL 46 yL_wanted : Cond) ∈ UW := uw 686 (by decide +kernel) (by decide +kernel)
theorem u_st_yL_wanted : (.static yL_wanted : Cond) ∈ UW := uw 687 (by decide +kernel) (by decide +kernel)
theorem u_co_yL_wanted : (.code yL_wanted cL_wanted 5 (some FieldType.int) : Cond) ∈ UW := uw 688 (by decide +kernel) (by decide +kernel)
theorem u_ml_RL_141 : (.methodLink RL 141 yL_plans : Cond) ∈ UW := uw 689 (by decide +kernel) (by decide +kernel)
theorem u_st_yL_plans : (.static yL_plans : Cond) ∈ UW := uw 690 (by decide +kernel) (by decide +kernel)
theorem u_co_yL_plans : (.code yL_plans cL_plans 15 (none) : Cond) ∈ UW := uw 691 (by decide +kernel) (by decide +kernel)
theorem u_ml_RL_60 : (.methodLink RL 60 yL_lines : Cond) ∈ UW := uw 692 (by decide +kernel) (by decide +kernel)
theorem u_st_yL_lines : (.static yL_lines : Cond) ∈ UW := uw 693 (by decide +kernel) (by decide +kernel)
theorem u_co_yL_lines : (.code yL_lines cL_lines 5 (some FieldType.int) : Cond) ∈ UW := uw 694 (by decide +kernel) (by decide +kernel)
theorem u_ml_RL_63 : (.methodLink RL 63 yL_products : Cond) ∈ UW := uw 695 (by decide +kernel) (by decide +kernel)
theorem u_st_yL_products : (.static yL_products : Cond) ∈ UW := uw 696 (by decide +kernel) (by decide +kernel)
theorem u_co_yL_products : (.code yL_products cL_products 6 (some FieldType.int) : Cond) ∈ UW := uw 697 (by decide +kernel) (by decide +kernel)
theorem u_ml_RL_67 : (.methodLink RL 67 yL_route : Cond) ∈ UW := uw 698 (by decide +kernel) (by decide +kernel)
theorem u_st_yL_route : (.static yL_route : Cond) ∈ UW := uw 699 (by decide +kernel) (by decide +kernel)
theorem u_co_yL_route : (.code yL_route cL_route 10 (some FieldType.int) : Cond) ∈ UW := uw 700 (by decide +kernel) (by decide +kernel)
theorem u_ml_RL_52 : (.methodLink RL 52 yL_way : Cond) ∈ UW := uw 701 (by decide +kernel) (by decide +kernel)
theorem u_st_yL_way : (.static yL_way : Cond) ∈ UW := uw 702 (by decide +kernel) (by decide +kernel)
theorem u_co_yL_way : (.code yL_way cL_way 7 (some FieldType.int) : Cond) ∈ UW := uw 703 (by decide +kernel) (by decide +kernel)
theorem u_ml_RL_56 : (.methodLink RL 56 yL_next : Cond) ∈ UW := uw 704 (by decide +kernel) (by decide +kernel)
theorem u_st_yL_next : (.static yL_next : Cond) ∈ UW := uw 705 (by decide +kernel) (by decide +kernel)
theorem u_co_yL_next : (.code yL_next cL_next 7 (some FieldType.boolean) : Cond) ∈ UW := uw 706 (by decide +kernel) (by decide +kernel)
theorem u_ml_RL_145 : (.methodLink RL 145 yL_picks : Cond) ∈ UW := uw 707 (by decide +kernel) (by decide +kernel)
theorem u_st_yL_picks : (.static yL_picks : Cond) ∈ UW := uw 708 (by decide +kernel) (by decide +kernel)
theorem u_co_yL_picks : (.code yL_picks cL_picks 12 (some FieldType.int) : Cond) ∈ UW := uw 709 (by decide +kernel) (by decide +kernel)
theorem u_ml_RL_149 : (.methodLink RL 149 yL_laysOut : Cond) ∈ UW := uw 710 (by decide +kernel) (by decide +kernel)
theorem u_st_yL_laysOut : (.static yL_laysOut : Cond) ∈ UW := uw 711 (by decide +kernel) (by decide +kernel)
theorem u_co_yL_laysOut : (.code yL_laysOut cL_laysOut 12 (some FieldType.int) : Cond) ∈ UW := uw 712 (by decide +kernel) (by decide +kernel)
theorem u_ml_RL_153 : (.methodLink RL 153 yL_isSo : Cond) ∈ UW := uw 713 (by decide +kernel) (by decide +kernel)
theorem u_st_yL_isSo : (.static yL_isSo : Cond) ∈ UW := uw 714 (by decide +kernel) (by decide +kernel)
theorem u_co_yL_isSo : (.code yL_isSo cL_isSo 15 (some FieldType.boolean) : Cond) ∈ UW := uw 715 (by decide +kernel) (by decide +kernel)
theorem u_ml_RL_93 : (.methodLink RL 93 yX5_orders : Cond) ∈ UW := uw 716 (by decide +kernel) (by decide +kernel)
theorem u_im_yX5_orders : (.instanceMethod yX5_orders : Cond) ∈ UW := uw 717 (by decide +kernel) (by decide +kernel)
theorem u_se_yX5_orders : (.selects RX5 yX5_orders yX5_orders : Cond) ∈ UW := uw 718 (by decide +kernel) (by decide +kernel)
theorem u_co_yX5_orders : (.code yX5_orders cX5_orders 1 (some FieldType.int) : Cond) ∈ UW := uw 719 (by decide +kernel) (by decide +kernel)
theorem u_ml_RL_96 : (.methodLink RL 96 yX5_batches : Cond) ∈ UW := uw 720 (by decide +kernel) (by decide +kernel)
theorem u_im_yX5_batches : (.instanceMethod yX5_batches : Cond) ∈ UW := uw 721 (by decide +kernel) (by decide +kernel)
theorem u_se_yX5_batches : (.selects RX5 yX5_batches yX5_batches : Cond) ∈ UW := uw 722 (by decide +kernel) (by decide +kernel)
theorem u_co_yX5_batches : (.code yX5_batches cX5_batches 1 (some FieldType.int) : Cond) ∈ UW := uw 723 (by decide +kernel) (by decide +kernel)
theorem u_ml_RL_99 : (.methodLink RL 99 yX5_walked : Cond) ∈ UW := uw 724 (by decide +kernel) (by decide +kernel)
theorem u_im_yX5_walked : (.instanceMethod yX5_walked : Cond) ∈ UW := uw 725 (by decide +kernel) (by decide +kernel)
theorem u_se_yX5_walked : (.selects RX5 yX5_walked yX5_walked : Cond) ∈ UW := uw 726 (by decide +kernel) (by decide +kernel)
theorem u_co_yX5_walked : (.code yX5_walked cX5_walked 1 (some FieldType.int) : Cond) ∈ UW := uw 727 (by decide +kernel) (by decide +kernel)
theorem u_ml_RL_102 : (.methodLink RL 102 yX5_share : Cond) ∈ UW := uw 728 (by decide +kernel) (by decide +kernel)
theorem u_im_yX5_share : (.instanceMethod yX5_share : Cond) ∈ UW := uw 729 (by decide +kernel) (by decide +kernel)
theorem u_se_yX5_share : (.selects RX5 yX5_share yX5_share : Cond) ∈ UW := uw 730 (by decide +kernel) (by decide +kernel)
theorem u_co_yX5_share : (.code yX5_share cX5_share 1 (some FieldType.double) : Cond) ∈ UW := uw 731 (by decide +kernel) (by decide +kernel)
theorem u_ml_RL_106 : (.methodLink RL 106 yX5_placeOf : Cond) ∈ UW := uw 732 (by decide +kernel) (by decide +kernel)
theorem u_im_yX5_placeOf : (.instanceMethod yX5_placeOf : Cond) ∈ UW := uw 733 (by decide +kernel) (by decide +kernel)
theorem u_se_yX5_placeOf : (.selects RX5 yX5_placeOf yX5_placeOf : Cond) ∈ UW := uw 734 (by decide +kernel) (by decide +kernel)
theorem u_co_yX5_placeOf : (.code yX5_placeOf cX5_placeOf 2 (some FieldType.int) : Cond) ∈ UW := uw 735 (by decide +kernel) (by decide +kernel)
theorem u_ml_RL_109 : (.methodLink RL 109 yX5_turnover : Cond) ∈ UW := uw 736 (by decide +kernel) (by decide +kernel)
theorem u_im_yX5_turnover : (.instanceMethod yX5_turnover : Cond) ∈ UW := uw 737 (by decide +kernel) (by decide +kernel)
theorem u_se_yX5_turnover : (.selects RX5 yX5_turnover yX5_turnover : Cond) ∈ UW := uw 738 (by decide +kernel) (by decide +kernel)
theorem u_co_yX5_turnover : (.code yX5_turnover cX5_turnover 2 (some FieldType.int) : Cond) ∈ UW := uw 739 (by decide +kernel) (by decide +kernel)
theorem u_ml_RL_112 : (.methodLink RL 112 yX5_stateOf : Cond) ∈ UW := uw 740 (by decide +kernel) (by decide +kernel)
theorem u_im_yX5_stateOf : (.instanceMethod yX5_stateOf : Cond) ∈ UW := uw 741 (by decide +kernel) (by decide +kernel)
theorem u_se_yX5_stateOf : (.selects RX5 yX5_stateOf yX5_stateOf : Cond) ∈ UW := uw 742 (by decide +kernel) (by decide +kernel)
theorem u_co_yX5_stateOf : (.code yX5_stateOf cX5_stateOf 2 (some FieldType.int) : Cond) ∈ UW := uw 743 (by decide +kernel) (by decide +kernel)
theorem u_ml_RL_115 : (.methodLink RL 115 yX5_batchOf : Cond) ∈ UW := uw 744 (by decide +kernel) (by decide +kernel)
theorem u_im_yX5_batchOf : (.instanceMethod yX5_batchOf : Cond) ∈ UW := uw 745 (by decide +kernel) (by decide +kernel)
theorem u_se_yX5_batchOf : (.selects RX5 yX5_batchOf yX5_batchOf : Cond) ∈ UW := uw 746 (by decide +kernel) (by decide +kernel)
theorem u_co_yX5_batchOf : (.code yX5_batchOf cX5_batchOf 2 (some FieldType.int) : Cond) ∈ UW := uw 747 (by decide +kernel) (by decide +kernel)
theorem u_ml_RX5_202 : (.methodLink RX5 202 yX4_batchWith : Cond) ∈ UW := uw 748 (by decide +kernel) (by decide +kernel)
theorem u_im_yX4_batchWith : (.instanceMethod yX4_batchWith : Cond) ∈ UW := uw 749 (by decide +kernel) (by decide +kernel)
theorem u_se_yX4_batchWith : (.selects RX4 yX4_batchWith yX4_batchWith : Cond) ∈ UW := uw 750 (by decide +kernel) (by decide +kernel)
theorem u_co_yX4_batchWith : (.code yX4_batchWith cX4_batchWith 3 (some FieldType.int) : Cond) ∈ UW := uw 751 (by decide +kernel) (by decide +kernel)
theorem u_ml_RX4_96 : (.methodLink RX4 96 yX0_holds : Cond) ∈ UW := uw 752 (by decide +kernel) (by decide +kernel)
theorem u_ml_RL_118 : (.methodLink RL 118 yL_isBatch : Cond) ∈ UW := uw 753 (by decide +kernel) (by decide +kernel)
theorem u_st_yL_isBatch : (.static yL_isBatch : Cond) ∈ UW := uw 754 (by decide +kernel) (by decide +kernel)
theorem u_co_yL_isBatch : (.code yL_isBatch cL_isBatch 12 (some FieldType.boolean) : Cond) ∈ UW := uw 755 (by decide +kernel) (by decide +kernel)
theorem u_ml_RL_71 : (.methodLink RL 71 yX5_linesOf : Cond) ∈ UW := uw 756 (by decide +kernel) (by decide +kernel)
theorem u_im_yX5_linesOf : (.instanceMethod yX5_linesOf : Cond) ∈ UW := uw 757 (by decide +kernel) (by decide +kernel)
theorem u_se_yX5_linesOf : (.selects RX5 yX5_linesOf yX5_linesOf : Cond) ∈ UW := uw 758 (by decide +kernel) (by decide +kernel)
theorem u_co_yX5_linesOf : (.code yX5_linesOf cX5_linesOf 2 (some FieldType.int) : Cond) ∈ UW := uw 759 (by decide +kernel) (by decide +kernel)
theorem u_ml_RL_74 : (.methodLink RL 74 yX5_lengthOf : Cond) ∈ UW := uw 760 (by decide +kernel) (by decide +kernel)
theorem u_im_yX5_lengthOf : (.instanceMethod yX5_lengthOf : Cond) ∈ UW := uw 761 (by decide +kernel) (by decide +kernel)
theorem u_se_yX5_lengthOf : (.selects RX5 yX5_lengthOf yX5_lengthOf : Cond) ∈ UW := uw 762 (by decide +kernel) (by decide +kernel)
theorem u_co_yX5_lengthOf : (.code yX5_lengthOf cX5_lengthOf 2 (some FieldType.int) : Cond) ∈ UW := uw 763 (by decide +kernel) (by decide +kernel)
theorem u_ml_RL_77 : (.methodLink RL 77 yX5_lengthByTrying : Cond) ∈ UW := uw 764 (by decide +kernel) (by decide +kernel)
theorem u_im_yX5_lengthByTrying : (.instanceMethod yX5_lengthByTrying : Cond) ∈ UW := uw 765 (by decide +kernel) (by decide +kernel)
theorem u_se_yX5_lengthByTrying : (.selects RX5 yX5_lengthByTrying yX5_lengthByTrying : Cond) ∈ UW := uw 766 (by decide +kernel) (by decide +kernel)
theorem u_co_yX5_lengthByTrying : (.code yX5_lengthByTrying cX5_lengthByTrying 3 (some FieldType.int) : Cond) ∈ UW := uw 767 (by decide +kernel) (by decide +kernel)
theorem u_ml_RX5_214 : (.methodLink RX5 214 yX2_leastByTrying : Cond) ∈ UW := uw 769 (by decide +kernel) (by decide +kernel)
theorem u_im_yX2_leastByTrying : (.instanceMethod yX2_leastByTrying : Cond) ∈ UW := uw 770 (by decide +kernel) (by decide +kernel)
theorem u_se_yX2_leastByTrying : (.selects RX2 yX2_leastByTrying yX2_leastByTrying : Cond) ∈ UW := uw 771 (by decide +kernel) (by decide +kernel)
theorem u_co_yX2_leastByTrying : (.code yX2_leastByTrying cX2_leastByTrying 2 (some FieldType.int) : Cond) ∈ UW := uw 772 (by decide +kernel) (by decide +kernel)
theorem u_ml_RX2_50 : (.methodLink RX2 50 yX2_tryFrom : Cond) ∈ UW := uw 773 (by decide +kernel) (by decide +kernel)
theorem u_st_yX2_tryFrom : (.static yX2_tryFrom : Cond) ∈ UW := uw 774 (by decide +kernel) (by decide +kernel)
theorem u_co_yX2_tryFrom : (.code yX2_tryFrom cX2_tryFrom 9 (some FieldType.int) : Cond) ∈ UW := uw 775 (by decide +kernel) (by decide +kernel)
theorem u_ml_RL_80 : (.methodLink RL 80 yX5_stops : Cond) ∈ UW := uw 776 (by decide +kernel) (by decide +kernel)
theorem u_im_yX5_stops : (.instanceMethod yX5_stops : Cond) ∈ UW := uw 777 (by decide +kernel) (by decide +kernel)
theorem u_se_yX5_stops : (.selects RX5 yX5_stops yX5_stops : Cond) ∈ UW := uw 778 (by decide +kernel) (by decide +kernel)
theorem u_co_yX5_stops : (.code yX5_stops cX5_stops 2 (some FieldType.int) : Cond) ∈ UW := uw 779 (by decide +kernel) (by decide +kernel)
theorem u_ml_RL_83 : (.methodLink RL 83 yX5_lengthThrough : Cond) ∈ UW := uw 780 (by decide +kernel) (by decide +kernel)
theorem u_im_yX5_lengthThrough : (.instanceMethod yX5_lengthThrough : Cond) ∈ UW := uw 781 (by decide +kernel) (by decide +kernel)
theorem u_se_yX5_lengthThrough : (.selects RX5 yX5_lengthThrough yX5_lengthThrough : Cond) ∈ UW := uw 782 (by decide +kernel) (by decide +kernel)
theorem u_co_yX5_lengthThrough : (.code yX5_lengthThrough cX5_lengthThrough 2 (some FieldType.int) : Cond) ∈ UW := uw 783 (by decide +kernel) (by decide +kernel)
theorem u_ml_RX5_217 : (.methodLink RX5 217 yX2_throughAisles : Cond) ∈ UW := uw 784 (by decide +kernel) (by decide +kernel)
theorem u_im_yX2_throughAisles : (.instanceMethod yX2_throughAisles : Cond) ∈ UW := uw 785 (by decide +kernel) (by decide +kernel)
theorem u_se_yX2_throughAisles : (.selects RX2 yX2_throughAisles yX2_throughAisles : Cond) ∈ UW := uw 786 (by decide +kernel) (by decide +kernel)
theorem u_co_yX2_throughAisles : (.code yX2_throughAisles cX2_throughAisles 6 (some FieldType.int) : Cond) ∈ UW := uw 787 (by decide +kernel) (by decide +kernel)
theorem u_ml_RX2_54 : (.methodLink RX2 54 yX2_countAisles : Cond) ∈ UW := uw 788 (by decide +kernel) (by decide +kernel)
theorem u_im_yX2_countAisles : (.instanceMethod yX2_countAisles : Cond) ∈ UW := uw 790 (by decide +kernel) (by decide +kernel)
theorem u_co_yX2_countAisles : (.code yX2_countAisles cX2_countAisles 5 (some FieldType.int) : Cond) ∈ UW := uw 791 (by decide +kernel) (by decide +kernel)
theorem u_ml_RX2_57 : (.methodLink RX2 57 yX3_depth : Cond) ∈ UW := uw 792 (by decide +kernel) (by decide +kernel)
theorem u_ml_RL_86 : (.methodLink RL 86 yL_through : Cond) ∈ UW := uw 793 (by decide +kernel) (by decide +kernel)
theorem u_st_yL_through : (.static yL_through : Cond) ∈ UW := uw 794 (by decide +kernel) (by decide +kernel)
theorem u_co_yL_through : (.code yL_through cL_through 11 (some FieldType.int) : Cond) ∈ UW := uw 795 (by decide +kernel) (by decide +kernel)
theorem u_ml_RL_122 : (.methodLink RL 122 yX5_inAisle : Cond) ∈ UW := uw 796 (by decide +kernel) (by decide +kernel)
theorem u_im_yX5_inAisle : (.instanceMethod yX5_inAisle : Cond) ∈ UW := uw 797 (by decide +kernel) (by decide +kernel)
theorem u_se_yX5_inAisle : (.selects RX5 yX5_inAisle yX5_inAisle : Cond) ∈ UW := uw 798 (by decide +kernel) (by decide +kernel)
theorem u_co_yX5_inAisle : (.code yX5_inAisle cX5_inAisle 2 (some FieldType.int) : Cond) ∈ UW := uw 799 (by decide +kernel) (by decide +kernel)
theorem u_ml_RX5_224 : (.methodLink RX5 224 yX4_countIn : Cond) ∈ UW := uw 801 (by decide +kernel) (by decide +kernel)
theorem u_im_yX4_countIn : (.instanceMethod yX4_countIn : Cond) ∈ UW := uw 802 (by decide +kernel) (by decide +kernel)
theorem u_se_yX4_countIn : (.selects RX4 yX4_countIn yX4_countIn : Cond) ∈ UW := uw 803 (by decide +kernel) (by decide +kernel)
theorem u_co_yX4_countIn : (.code yX4_countIn cX4_countIn 4 (some FieldType.int) : Cond) ∈ UW := uw 804 (by decide +kernel) (by decide +kernel)
theorem u_ml_RX4_100 : (.methodLink RX4 100 yX0_comesInto : Cond) ∈ UW := uw 805 (by decide +kernel) (by decide +kernel)
theorem u_im_yX0_comesInto : (.instanceMethod yX0_comesInto : Cond) ∈ UW := uw 806 (by decide +kernel) (by decide +kernel)
theorem u_se_yX0_comesInto : (.selects RX0 yX0_comesInto yX0_comesInto : Cond) ∈ UW := uw 807 (by decide +kernel) (by decide +kernel)
theorem u_co_yX0_comesInto : (.code yX0_comesInto cX0_comesInto 3 (some FieldType.boolean) : Cond) ∈ UW := uw 808 (by decide +kernel) (by decide +kernel)
theorem u_ml_RL_128 : (.methodLink RL 128 yX5_lengthAlone : Cond) ∈ UW := uw 809 (by decide +kernel) (by decide +kernel)
theorem u_im_yX5_lengthAlone : (.instanceMethod yX5_lengthAlone : Cond) ∈ UW := uw 810 (by decide +kernel) (by decide +kernel)
theorem u_se_yX5_lengthAlone : (.selects RX5 yX5_lengthAlone yX5_lengthAlone : Cond) ∈ UW := uw 811 (by decide +kernel) (by decide +kernel)
theorem u_co_yX5_lengthAlone : (.code yX5_lengthAlone cX5_lengthAlone 2 (some FieldType.int) : Cond) ∈ UW := uw 812 (by decide +kernel) (by decide +kernel)
theorem n_ca_RX5_java_lang_Object : (.castable RX5 "java/lang/Object" : Cond) ∈ UN := un 814 (by decide +kernel) (by decide +kernel)
theorem n_ca_RX3_java_lang_Object : (.castable RX3 "java/lang/Object" : Cond) ∈ UN := un 815 (by decide +kernel) (by decide +kernel)
theorem n_ca_RX2_java_lang_Object : (.castable RX2 "java/lang/Object" : Cond) ∈ UN := un 816 (by decide +kernel) (by decide +kernel)
theorem n_ca_RX4_java_lang_Object : (.castable RX4 "java/lang/Object" : Cond) ∈ UN := un 817 (by decide +kernel) (by decide +kernel)
theorem n_ca_RJx4a65c_java_lang_Object : (.castable RJx4a65c "java/lang/Object" : Cond) ∈ UN := un 818 (by decide +kernel) (by decide +kernel)
theorem n_ca_java_lang_IndexOutOfBoundsException_java_lang_Object : (.castable "java/lang/IndexOutOfBoundsException" "java/lang/Object" : Cond) ∈ UN := un 819 (by decide +kernel) (by decide +kernel)
theorem n_ca_java_lang_IllegalStateException_java_lang_Object : (.castable "java/lang/IllegalStateException" "java/lang/Object" : Cond) ∈ UN := un 820 (by decide +kernel) (by decide +kernel)
theorem n_ca_java_lang_IllegalArgumentException_java_lang_Object : (.castable "java/lang/IllegalArgumentException" "java/lang/Object" : Cond) ∈ UN := un 821 (by decide +kernel) (by decide +kernel)
theorem n_ca_RX0_java_lang_Object : (.castable RX0 "java/lang/Object" : Cond) ∈ UN := un 822 (by decide +kernel) (by decide +kernel)
theorem n_ca_RX1_java_lang_Object : (.castable RX1 "java/lang/Object" : Cond) ∈ UN := un 823 (by decide +kernel) (by decide +kernel)
theorem n_ca_java_lang_Throwable_java_lang_Object : (.castable "java/lang/Throwable" "java/lang/Object" : Cond) ∈ UN := un 824 (by decide +kernel) (by decide +kernel)
theorem n_ca_RJ0_java_lang_Object : (.castable RJ0 "java/lang/Object" : Cond) ∈ UN := un 825 (by decide +kernel) (by decide +kernel)
theorem n_ca_AI_java_lang_Object : (.castable "[I" "java/lang/Object" : Cond) ∈ UN := un 829 (by decide +kernel) (by decide +kernel)
theorem n_ca_AAI_java_lang_Object : (.castable "[[I" "java/lang/Object" : Cond) ∈ UN := un 830 (by decide +kernel) (by decide +kernel)
theorem n_ca_AB_java_lang_Object : (.castable "[B" "java/lang/Object" : Cond) ∈ UN := un 831 (by decide +kernel) (by decide +kernel)
theorem n_ca_ALjava_lang_Object_java_lang_Object : (.castable "[Ljava/lang/Object;" "java/lang/Object" : Cond) ∈ UN := un 832 (by decide +kernel) (by decide +kernel)
theorem hd_yX0_init : yX0_init.cls = RX0 ∧ yX0_init.cls ≠ "java/lang/invoke/MethodHandle" ∧ yX0_init.cls ≠ "java/lang/invoke/VarHandle" ∧ (parseMethodDescriptor yX0_init.desc).map (fun d => d.parameters.length) = some 4 := by decide +kernel
theorem hd_yX0_holds : yX0_holds.cls = RX0 ∧ yX0_holds.cls ≠ "java/lang/invoke/MethodHandle" ∧ yX0_holds.cls ≠ "java/lang/invoke/VarHandle" ∧ (parseMethodDescriptor yX0_holds.desc).map (fun d => d.parameters.length) = some 1 := by decide +kernel
theorem hd_yX0_comesInto : yX0_comesInto.cls = RX0 ∧ yX0_comesInto.cls ≠ "java/lang/invoke/MethodHandle" ∧ yX0_comesInto.cls ≠ "java/lang/invoke/VarHandle" ∧ (parseMethodDescriptor yX0_comesInto.desc).map (fun d => d.parameters.length) = some 1 := by decide +kernel
theorem hd_yX0_absorb : yX0_absorb.cls = RX0 ∧ yX0_absorb.cls ≠ "java/lang/invoke/MethodHandle" ∧ yX0_absorb.cls ≠ "java/lang/invoke/VarHandle" ∧ (parseMethodDescriptor yX0_absorb.desc).map (fun d => d.parameters.length) = some 2 := by decide +kernel
theorem hd_yX1_init : yX1_init.cls = RX1 ∧ yX1_init.cls ≠ "java/lang/invoke/MethodHandle" ∧ yX1_init.cls ≠ "java/lang/invoke/VarHandle" ∧ (parseMethodDescriptor yX1_init.desc).map (fun d => d.parameters.length) = some 1 := by decide +kernel
theorem hd_yX1_asksFor : yX1_asksFor.cls = RX1 ∧ yX1_asksFor.cls ≠ "java/lang/invoke/MethodHandle" ∧ yX1_asksFor.cls ≠ "java/lang/invoke/VarHandle" ∧ (parseMethodDescriptor yX1_asksFor.desc).map (fun d => d.parameters.length) = some 1 := by decide +kernel
theorem hd_yX1_countLines : yX1_countLines.cls = RX1 ∧ yX1_countLines.cls ≠ "java/lang/invoke/MethodHandle" ∧ yX1_countLines.cls ≠ "java/lang/invoke/VarHandle" ∧ (parseMethodDescriptor yX1_countLines.desc).map (fun d => d.parameters.length) = some 0 := by decide +kernel
theorem hd_yX1_addLine : yX1_addLine.cls = RX1 ∧ yX1_addLine.cls ≠ "java/lang/invoke/MethodHandle" ∧ yX1_addLine.cls ≠ "java/lang/invoke/VarHandle" ∧ (parseMethodDescriptor yX1_addLine.desc).map (fun d => d.parameters.length) = some 2 := by decide +kernel
theorem hd_yX1_isTakenAt : yX1_isTakenAt.cls = RX1 ∧ yX1_isTakenAt.cls ≠ "java/lang/invoke/MethodHandle" ∧ yX1_isTakenAt.cls ≠ "java/lang/invoke/VarHandle" ∧ (parseMethodDescriptor yX1_isTakenAt.desc).map (fun d => d.parameters.length) = some 1 := by decide +kernel
theorem hd_yX2_init : yX2_init.cls = RX2 ∧ yX2_init.cls ≠ "java/lang/invoke/MethodHandle" ∧ yX2_init.cls ≠ "java/lang/invoke/VarHandle" ∧ (parseMethodDescriptor yX2_init.desc).map (fun d => d.parameters.length) = some 1 := by decide +kernel
theorem hd_yX2_leastLength : yX2_leastLength.cls = RX2 ∧ yX2_leastLength.cls ≠ "java/lang/invoke/MethodHandle" ∧ yX2_leastLength.cls ≠ "java/lang/invoke/VarHandle" ∧ (parseMethodDescriptor yX2_leastLength.desc).map (fun d => d.parameters.length) = some 1 := by decide +kernel
theorem hd_yX2_bestRoute : yX2_bestRoute.cls = RX2 ∧ yX2_bestRoute.cls ≠ "java/lang/invoke/MethodHandle" ∧ yX2_bestRoute.cls ≠ "java/lang/invoke/VarHandle" ∧ (parseMethodDescriptor yX2_bestRoute.desc).map (fun d => d.parameters.length) = some 1 := by decide +kernel
theorem hd_yX2_leastByTrying : yX2_leastByTrying.cls = RX2 ∧ yX2_leastByTrying.cls ≠ "java/lang/invoke/MethodHandle" ∧ yX2_leastByTrying.cls ≠ "java/lang/invoke/VarHandle" ∧ (parseMethodDescriptor yX2_leastByTrying.desc).map (fun d => d.parameters.length) = some 1 := by decide +kernel
theorem hd_yX2_throughAisles : yX2_throughAisles.cls = RX2 ∧ yX2_throughAisles.cls ≠ "java/lang/invoke/MethodHandle" ∧ yX2_throughAisles.cls ≠ "java/lang/invoke/VarHandle" ∧ (parseMethodDescriptor yX2_throughAisles.desc).map (fun d => d.parameters.length) = some 1 := by decide +kernel
theorem hd_yX2_everyPlace : yX2_everyPlace.cls = RX2 ∧ yX2_everyPlace.cls ≠ "java/lang/invoke/MethodHandle" ∧ yX2_everyPlace.cls ≠ "java/lang/invoke/VarHandle" ∧ (parseMethodDescriptor yX2_everyPlace.desc).map (fun d => d.parameters.length) = some 0 := by decide +kernel
theorem hd_yX2_countAisles : yX2_countAisles.cls = RX2 ∧ yX2_countAisles.cls ≠ "java/lang/invoke/MethodHandle" ∧ yX2_countAisles.cls ≠ "java/lang/invoke/VarHandle" ∧ (parseMethodDescriptor yX2_countAisles.desc).map (fun d => d.parameters.length) = some 0 := by decide +kernel
theorem hd_yX2_gather : yX2_gather.cls = RX2 ∧ yX2_gather.cls ≠ "java/lang/invoke/MethodHandle" ∧ yX2_gather.cls ≠ "java/lang/invoke/VarHandle" ∧ (parseMethodDescriptor yX2_gather.desc).map (fun d => d.parameters.length) = some 1 := by decide +kernel
theorem hd_yX2_insertPlace : yX2_insertPlace.cls = RX2 ∧ yX2_insertPlace.cls ≠ "java/lang/invoke/MethodHandle" ∧ yX2_insertPlace.cls ≠ "java/lang/invoke/VarHandle" ∧ (parseMethodDescriptor yX2_insertPlace.desc).map (fun d => d.parameters.length) = some 1 := by decide +kernel
theorem hd_yX2_fillOnward : yX2_fillOnward.cls = RX2 ∧ yX2_fillOnward.cls ≠ "java/lang/invoke/MethodHandle" ∧ yX2_fillOnward.cls ≠ "java/lang/invoke/VarHandle" ∧ (parseMethodDescriptor yX2_fillOnward.desc).map (fun d => d.parameters.length) = some 0 := by decide +kernel
theorem hd_yX2_leastOnward : yX2_leastOnward.cls = RX2 ∧ yX2_leastOnward.cls ≠ "java/lang/invoke/MethodHandle" ∧ yX2_leastOnward.cls ≠ "java/lang/invoke/VarHandle" ∧ (parseMethodDescriptor yX2_leastOnward.desc).map (fun d => d.parameters.length) = some 2 := by decide +kernel
theorem hd_yX2_lengthBy : yX2_lengthBy.cls = RX2 ∧ yX2_lengthBy.cls ≠ "java/lang/invoke/MethodHandle" ∧ yX2_lengthBy.cls ≠ "java/lang/invoke/VarHandle" ∧ (parseMethodDescriptor yX2_lengthBy.desc).map (fun d => d.parameters.length) = some 3 := by decide +kernel
theorem hd_yX2_bestNext : yX2_bestNext.cls = RX2 ∧ yX2_bestNext.cls ≠ "java/lang/invoke/MethodHandle" ∧ yX2_bestNext.cls ≠ "java/lang/invoke/VarHandle" ∧ (parseMethodDescriptor yX2_bestNext.desc).map (fun d => d.parameters.length) = some 2 := by decide +kernel
theorem hd_yX2_tryFrom : yX2_tryFrom.cls = RX2 ∧ yX2_tryFrom.cls ≠ "java/lang/invoke/MethodHandle" ∧ yX2_tryFrom.cls ≠ "java/lang/invoke/VarHandle" ∧ (parseMethodDescriptor yX2_tryFrom.desc).map (fun d => d.parameters.length) = some 6 := by decide +kernel
theorem hd_yX3_init : yX3_init.cls = RX3 ∧ yX3_init.cls ≠ "java/lang/invoke/MethodHandle" ∧ yX3_init.cls ≠ "java/lang/invoke/VarHandle" ∧ (parseMethodDescriptor yX3_init.desc).map (fun d => d.parameters.length) = some 3 := by decide +kernel
theorem hd_yX3_hasAisle : yX3_hasAisle.cls = RX3 ∧ yX3_hasAisle.cls ≠ "java/lang/invoke/MethodHandle" ∧ yX3_hasAisle.cls ≠ "java/lang/invoke/VarHandle" ∧ (parseMethodDescriptor yX3_hasAisle.desc).map (fun d => d.parameters.length) = some 1 := by decide +kernel
theorem hd_yX3_hasPosition : yX3_hasPosition.cls = RX3 ∧ yX3_hasPosition.cls ≠ "java/lang/invoke/MethodHandle" ∧ yX3_hasPosition.cls ≠ "java/lang/invoke/VarHandle" ∧ (parseMethodDescriptor yX3_hasPosition.desc).map (fun d => d.parameters.length) = some 1 := by decide +kernel
theorem hd_yX3_depth : yX3_depth.cls = RX3 ∧ yX3_depth.cls ≠ "java/lang/invoke/MethodHandle" ∧ yX3_depth.cls ≠ "java/lang/invoke/VarHandle" ∧ (parseMethodDescriptor yX3_depth.desc).map (fun d => d.parameters.length) = some 0 := by decide +kernel
theorem hd_yX3_productAt : yX3_productAt.cls = RX3 ∧ yX3_productAt.cls ≠ "java/lang/invoke/MethodHandle" ∧ yX3_productAt.cls ≠ "java/lang/invoke/VarHandle" ∧ (parseMethodDescriptor yX3_productAt.desc).map (fun d => d.parameters.length) = some 1 := by decide +kernel
theorem hd_yX3_move : yX3_move.cls = RX3 ∧ yX3_move.cls ≠ "java/lang/invoke/MethodHandle" ∧ yX3_move.cls ≠ "java/lang/invoke/VarHandle" ∧ (parseMethodDescriptor yX3_move.desc).map (fun d => d.parameters.length) = some 2 := by decide +kernel
theorem hd_yX3_between : yX3_between.cls = RX3 ∧ yX3_between.cls ≠ "java/lang/invoke/MethodHandle" ∧ yX3_between.cls ≠ "java/lang/invoke/VarHandle" ∧ (parseMethodDescriptor yX3_between.desc).map (fun d => d.parameters.length) = some 2 := by decide +kernel
theorem hd_yX3_addTurnover : yX3_addTurnover.cls = RX3 ∧ yX3_addTurnover.cls ≠ "java/lang/invoke/MethodHandle" ∧ yX3_addTurnover.cls ≠ "java/lang/invoke/VarHandle" ∧ (parseMethodDescriptor yX3_addTurnover.desc).map (fun d => d.parameters.length) = some 1 := by decide +kernel
theorem hd_yX3_rearrange : yX3_rearrange.cls = RX3 ∧ yX3_rearrange.cls ≠ "java/lang/invoke/MethodHandle" ∧ yX3_rearrange.cls ≠ "java/lang/invoke/VarHandle" ∧ (parseMethodDescriptor yX3_rearrange.desc).map (fun d => d.parameters.length) = some 0 := by decide +kernel
theorem hd_yX3_insertPlace : yX3_insertPlace.cls = RX3 ∧ yX3_insertPlace.cls ≠ "java/lang/invoke/MethodHandle" ∧ yX3_insertPlace.cls ≠ "java/lang/invoke/VarHandle" ∧ (parseMethodDescriptor yX3_insertPlace.desc).map (fun d => d.parameters.length) = some 2 := by decide +kernel
theorem hd_yX3_isNearer : yX3_isNearer.cls = RX3 ∧ yX3_isNearer.cls ≠ "java/lang/invoke/MethodHandle" ∧ yX3_isNearer.cls ≠ "java/lang/invoke/VarHandle" ∧ (parseMethodDescriptor yX3_isNearer.desc).map (fun d => d.parameters.length) = some 2 := by decide +kernel
theorem hd_yX3_insertProduct : yX3_insertProduct.cls = RX3 ∧ yX3_insertProduct.cls ≠ "java/lang/invoke/MethodHandle" ∧ yX3_insertProduct.cls ≠ "java/lang/invoke/VarHandle" ∧ (parseMethodDescriptor yX3_insertProduct.desc).map (fun d => d.parameters.length) = some 2 := by decide +kernel
theorem hd_yX4_init : yX4_init.cls = RX4 ∧ yX4_init.cls ≠ "java/lang/invoke/MethodHandle" ∧ yX4_init.cls ≠ "java/lang/invoke/VarHandle" ∧ (parseMethodDescriptor yX4_init.desc).map (fun d => d.parameters.length) = some 1 := by decide +kernel
theorem hd_yX4_isOn : yX4_isOn.cls = RX4 ∧ yX4_isOn.cls ≠ "java/lang/invoke/MethodHandle" ∧ yX4_isOn.cls ≠ "java/lang/invoke/VarHandle" ∧ (parseMethodDescriptor yX4_isOn.desc).map (fun d => d.parameters.length) = some 0 := by decide +kernel
theorem hd_yX4_size : yX4_size.cls = RX4 ∧ yX4_size.cls ≠ "java/lang/invoke/MethodHandle" ∧ yX4_size.cls ≠ "java/lang/invoke/VarHandle" ∧ (parseMethodDescriptor yX4_size.desc).map (fun d => d.parameters.length) = some 0 := by decide +kernel
theorem hd_yX4_take : yX4_take.cls = RX4 ∧ yX4_take.cls ≠ "java/lang/invoke/MethodHandle" ∧ yX4_take.cls ≠ "java/lang/invoke/VarHandle" ∧ (parseMethodDescriptor yX4_take.desc).map (fun d => d.parameters.length) = some 2 := by decide +kernel
theorem hd_yX4_join : yX4_join.cls = RX4 ∧ yX4_join.cls ≠ "java/lang/invoke/MethodHandle" ∧ yX4_join.cls ≠ "java/lang/invoke/VarHandle" ∧ (parseMethodDescriptor yX4_join.desc).map (fun d => d.parameters.length) = some 1 := by decide +kernel
theorem hd_yX4_noteSaving : yX4_noteSaving.cls = RX4 ∧ yX4_noteSaving.cls ≠ "java/lang/invoke/MethodHandle" ∧ yX4_noteSaving.cls ≠ "java/lang/invoke/VarHandle" ∧ (parseMethodDescriptor yX4_noteSaving.desc).map (fun d => d.parameters.length) = some 3 := by decide +kernel
theorem hd_yX4_savingOf : yX4_savingOf.cls = RX4 ∧ yX4_savingOf.cls ≠ "java/lang/invoke/MethodHandle" ∧ yX4_savingOf.cls ≠ "java/lang/invoke/VarHandle" ∧ (parseMethodDescriptor yX4_savingOf.desc).map (fun d => d.parameters.length) = some 2 := by decide +kernel
theorem hd_yX4_joinBestPair : yX4_joinBestPair.cls = RX4 ∧ yX4_joinBestPair.cls ≠ "java/lang/invoke/MethodHandle" ∧ yX4_joinBestPair.cls ≠ "java/lang/invoke/VarHandle" ∧ (parseMethodDescriptor yX4_joinBestPair.desc).map (fun d => d.parameters.length) = some 0 := by decide +kernel
theorem hd_yX4_drop : yX4_drop.cls = RX4 ∧ yX4_drop.cls ≠ "java/lang/invoke/MethodHandle" ∧ yX4_drop.cls ≠ "java/lang/invoke/VarHandle" ∧ (parseMethodDescriptor yX4_drop.desc).map (fun d => d.parameters.length) = some 1 := by decide +kernel
theorem hd_yX4_batchWith : yX4_batchWith.cls = RX4 ∧ yX4_batchWith.cls ≠ "java/lang/invoke/MethodHandle" ∧ yX4_batchWith.cls ≠ "java/lang/invoke/VarHandle" ∧ (parseMethodDescriptor yX4_batchWith.desc).map (fun d => d.parameters.length) = some 1 := by decide +kernel
theorem hd_yX4_countIn : yX4_countIn.cls = RX4 ∧ yX4_countIn.cls ≠ "java/lang/invoke/MethodHandle" ∧ yX4_countIn.cls ≠ "java/lang/invoke/VarHandle" ∧ (parseMethodDescriptor yX4_countIn.desc).map (fun d => d.parameters.length) = some 1 := by decide +kernel
theorem hd_yX5_init : yX5_init.cls = RX5 ∧ yX5_init.cls ≠ "java/lang/invoke/MethodHandle" ∧ yX5_init.cls ≠ "java/lang/invoke/VarHandle" ∧ (parseMethodDescriptor yX5_init.desc).map (fun d => d.parameters.length) = some 3 := by decide +kernel
theorem hd_yX5_put : yX5_put.cls = RX5 ∧ yX5_put.cls ≠ "java/lang/invoke/MethodHandle" ∧ yX5_put.cls ≠ "java/lang/invoke/VarHandle" ∧ (parseMethodDescriptor yX5_put.desc).map (fun d => d.parameters.length) = some 3 := by decide +kernel
theorem hd_yX5_layOut : yX5_layOut.cls = RX5 ∧ yX5_layOut.cls ≠ "java/lang/invoke/MethodHandle" ∧ yX5_layOut.cls ≠ "java/lang/invoke/VarHandle" ∧ (parseMethodDescriptor yX5_layOut.desc).map (fun d => d.parameters.length) = some 0 := by decide +kernel
theorem hd_yX5_placeOf : yX5_placeOf.cls = RX5 ∧ yX5_placeOf.cls ≠ "java/lang/invoke/MethodHandle" ∧ yX5_placeOf.cls ≠ "java/lang/invoke/VarHandle" ∧ (parseMethodDescriptor yX5_placeOf.desc).map (fun d => d.parameters.length) = some 1 := by decide +kernel
theorem hd_yX5_turnover : yX5_turnover.cls = RX5 ∧ yX5_turnover.cls ≠ "java/lang/invoke/MethodHandle" ∧ yX5_turnover.cls ≠ "java/lang/invoke/VarHandle" ∧ (parseMethodDescriptor yX5_turnover.desc).map (fun d => d.parameters.length) = some 1 := by decide +kernel
theorem hd_yX5_distance : yX5_distance.cls = RX5 ∧ yX5_distance.cls ≠ "java/lang/invoke/MethodHandle" ∧ yX5_distance.cls ≠ "java/lang/invoke/VarHandle" ∧ (parseMethodDescriptor yX5_distance.desc).map (fun d => d.parameters.length) = some 2 := by decide +kernel
theorem hd_yX5_order : yX5_order.cls = RX5 ∧ yX5_order.cls ≠ "java/lang/invoke/MethodHandle" ∧ yX5_order.cls ≠ "java/lang/invoke/VarHandle" ∧ (parseMethodDescriptor yX5_order.desc).map (fun d => d.parameters.length) = some 1 := by decide +kernel
theorem hd_yX5_line : yX5_line.cls = RX5 ∧ yX5_line.cls ≠ "java/lang/invoke/MethodHandle" ∧ yX5_line.cls ≠ "java/lang/invoke/VarHandle" ∧ (parseMethodDescriptor yX5_line.desc).map (fun d => d.parameters.length) = some 3 := by decide +kernel
theorem hd_yX5_orders : yX5_orders.cls = RX5 ∧ yX5_orders.cls ≠ "java/lang/invoke/MethodHandle" ∧ yX5_orders.cls ≠ "java/lang/invoke/VarHandle" ∧ (parseMethodDescriptor yX5_orders.desc).map (fun d => d.parameters.length) = some 0 := by decide +kernel
theorem hd_yX5_stateOf : yX5_stateOf.cls = RX5 ∧ yX5_stateOf.cls ≠ "java/lang/invoke/MethodHandle" ∧ yX5_stateOf.cls ≠ "java/lang/invoke/VarHandle" ∧ (parseMethodDescriptor yX5_stateOf.desc).map (fun d => d.parameters.length) = some 1 := by decide +kernel
theorem hd_yX5_lengthAlone : yX5_lengthAlone.cls = RX5 ∧ yX5_lengthAlone.cls ≠ "java/lang/invoke/MethodHandle" ∧ yX5_lengthAlone.cls ≠ "java/lang/invoke/VarHandle" ∧ (parseMethodDescriptor yX5_lengthAlone.desc).map (fun d => d.parameters.length) = some 1 := by decide +kernel
theorem hd_yX5_setCapacity : yX5_setCapacity.cls = RX5 ∧ yX5_setCapacity.cls ≠ "java/lang/invoke/MethodHandle" ∧ yX5_setCapacity.cls ≠ "java/lang/invoke/VarHandle" ∧ (parseMethodDescriptor yX5_setCapacity.desc).map (fun d => d.parameters.length) = some 1 := by decide +kernel
theorem hd_yX5_planWave : yX5_planWave.cls = RX5 ∧ yX5_planWave.cls ≠ "java/lang/invoke/MethodHandle" ∧ yX5_planWave.cls ≠ "java/lang/invoke/VarHandle" ∧ (parseMethodDescriptor yX5_planWave.desc).map (fun d => d.parameters.length) = some 1 := by decide +kernel
theorem hd_yX5_pick : yX5_pick.cls = RX5 ∧ yX5_pick.cls ≠ "java/lang/invoke/MethodHandle" ∧ yX5_pick.cls ≠ "java/lang/invoke/VarHandle" ∧ (parseMethodDescriptor yX5_pick.desc).map (fun d => d.parameters.length) = some 1 := by decide +kernel
theorem hd_yX5_batches : yX5_batches.cls = RX5 ∧ yX5_batches.cls ≠ "java/lang/invoke/MethodHandle" ∧ yX5_batches.cls ≠ "java/lang/invoke/VarHandle" ∧ (parseMethodDescriptor yX5_batches.desc).map (fun d => d.parameters.length) = some 0 := by decide +kernel
theorem hd_yX5_batchOf : yX5_batchOf.cls = RX5 ∧ yX5_batchOf.cls ≠ "java/lang/invoke/MethodHandle" ∧ yX5_batchOf.cls ≠ "java/lang/invoke/VarHandle" ∧ (parseMethodDescriptor yX5_batchOf.desc).map (fun d => d.parameters.length) = some 1 := by decide +kernel
theorem hd_yX5_linesOf : yX5_linesOf.cls = RX5 ∧ yX5_linesOf.cls ≠ "java/lang/invoke/MethodHandle" ∧ yX5_linesOf.cls ≠ "java/lang/invoke/VarHandle" ∧ (parseMethodDescriptor yX5_linesOf.desc).map (fun d => d.parameters.length) = some 1 := by decide +kernel
theorem hd_yX5_lengthOf : yX5_lengthOf.cls = RX5 ∧ yX5_lengthOf.cls ≠ "java/lang/invoke/MethodHandle" ∧ yX5_lengthOf.cls ≠ "java/lang/invoke/VarHandle" ∧ (parseMethodDescriptor yX5_lengthOf.desc).map (fun d => d.parameters.length) = some 1 := by decide +kernel
theorem hd_yX5_lengthByTrying : yX5_lengthByTrying.cls = RX5 ∧ yX5_lengthByTrying.cls ≠ "java/lang/invoke/MethodHandle" ∧ yX5_lengthByTrying.cls ≠ "java/lang/invoke/VarHandle" ∧ (parseMethodDescriptor yX5_lengthByTrying.desc).map (fun d => d.parameters.length) = some 1 := by decide +kernel
theorem hd_yX5_lengthThrough : yX5_lengthThrough.cls = RX5 ∧ yX5_lengthThrough.cls ≠ "java/lang/invoke/MethodHandle" ∧ yX5_lengthThrough.cls ≠ "java/lang/invoke/VarHandle" ∧ (parseMethodDescriptor yX5_lengthThrough.desc).map (fun d => d.parameters.length) = some 1 := by decide +kernel
theorem hd_yX5_stops : yX5_stops.cls = RX5 ∧ yX5_stops.cls ≠ "java/lang/invoke/MethodHandle" ∧ yX5_stops.cls ≠ "java/lang/invoke/VarHandle" ∧ (parseMethodDescriptor yX5_stops.desc).map (fun d => d.parameters.length) = some 1 := by decide +kernel
theorem hd_yX5_stopAt : yX5_stopAt.cls = RX5 ∧ yX5_stopAt.cls ≠ "java/lang/invoke/MethodHandle" ∧ yX5_stopAt.cls ≠ "java/lang/invoke/VarHandle" ∧ (parseMethodDescriptor yX5_stopAt.desc).map (fun d => d.parameters.length) = some 2 := by decide +kernel
theorem hd_yX5_inAisle : yX5_inAisle.cls = RX5 ∧ yX5_inAisle.cls ≠ "java/lang/invoke/MethodHandle" ∧ yX5_inAisle.cls ≠ "java/lang/invoke/VarHandle" ∧ (parseMethodDescriptor yX5_inAisle.desc).map (fun d => d.parameters.length) = some 1 := by decide +kernel
theorem hd_yX5_walked : yX5_walked.cls = RX5 ∧ yX5_walked.cls ≠ "java/lang/invoke/MethodHandle" ∧ yX5_walked.cls ≠ "java/lang/invoke/VarHandle" ∧ (parseMethodDescriptor yX5_walked.desc).map (fun d => d.parameters.length) = some 0 := by decide +kernel
theorem hd_yX5_share : yX5_share.cls = RX5 ∧ yX5_share.cls ≠ "java/lang/invoke/MethodHandle" ∧ yX5_share.cls ≠ "java/lang/invoke/VarHandle" ∧ (parseMethodDescriptor yX5_share.desc).map (fun d => d.parameters.length) = some 0 := by decide +kernel
theorem hd_yX5_within : yX5_within.cls = RX5 ∧ yX5_within.cls ≠ "java/lang/invoke/MethodHandle" ∧ yX5_within.cls ≠ "java/lang/invoke/VarHandle" ∧ (parseMethodDescriptor yX5_within.desc).map (fun d => d.parameters.length) = some 2 := by decide +kernel
theorem hd_yX5_isIn : yX5_isIn.cls = RX5 ∧ yX5_isIn.cls ≠ "java/lang/invoke/MethodHandle" ∧ yX5_isIn.cls ≠ "java/lang/invoke/VarHandle" ∧ (parseMethodDescriptor yX5_isIn.desc).map (fun d => d.parameters.length) = some 2 := by decide +kernel
theorem hd_yX5_checkProduct : yX5_checkProduct.cls = RX5 ∧ yX5_checkProduct.cls ≠ "java/lang/invoke/MethodHandle" ∧ yX5_checkProduct.cls ≠ "java/lang/invoke/VarHandle" ∧ (parseMethodDescriptor yX5_checkProduct.desc).map (fun d => d.parameters.length) = some 1 := by decide +kernel
theorem hd_yX5_checkTime : yX5_checkTime.cls = RX5 ∧ yX5_checkTime.cls ≠ "java/lang/invoke/MethodHandle" ∧ yX5_checkTime.cls ≠ "java/lang/invoke/VarHandle" ∧ (parseMethodDescriptor yX5_checkTime.desc).map (fun d => d.parameters.length) = some 1 := by decide +kernel
theorem hd_yX5_orderNumbered : yX5_orderNumbered.cls = RX5 ∧ yX5_orderNumbered.cls ≠ "java/lang/invoke/MethodHandle" ∧ yX5_orderNumbered.cls ≠ "java/lang/invoke/VarHandle" ∧ (parseMethodDescriptor yX5_orderNumbered.desc).map (fun d => d.parameters.length) = some 1 := by decide +kernel
theorem hd_yX5_batchNumbered : yX5_batchNumbered.cls = RX5 ∧ yX5_batchNumbered.cls ≠ "java/lang/invoke/MethodHandle" ∧ yX5_batchNumbered.cls ≠ "java/lang/invoke/VarHandle" ∧ (parseMethodDescriptor yX5_batchNumbered.desc).map (fun d => d.parameters.length) = some 1 := by decide +kernel
theorem hd_yX5_takesLine : yX5_takesLine.cls = RX5 ∧ yX5_takesLine.cls ≠ "java/lang/invoke/MethodHandle" ∧ yX5_takesLine.cls ≠ "java/lang/invoke/VarHandle" ∧ (parseMethodDescriptor yX5_takesLine.desc).map (fun d => d.parameters.length) = some 1 := by decide +kernel
theorem hd_yX5_mostLinesToDo : yX5_mostLinesToDo.cls = RX5 ∧ yX5_mostLinesToDo.cls ≠ "java/lang/invoke/MethodHandle" ∧ yX5_mostLinesToDo.cls ≠ "java/lang/invoke/VarHandle" ∧ (parseMethodDescriptor yX5_mostLinesToDo.desc).map (fun d => d.parameters.length) = some 0 := by decide +kernel
theorem hd_yX5_takesAnyOrder : yX5_takesAnyOrder.cls = RX5 ∧ yX5_takesAnyOrder.cls ≠ "java/lang/invoke/MethodHandle" ∧ yX5_takesAnyOrder.cls ≠ "java/lang/invoke/VarHandle" ∧ (parseMethodDescriptor yX5_takesAnyOrder.desc).map (fun d => d.parameters.length) = some 1 := by decide +kernel
theorem hd_yX5_finish : yX5_finish.cls = RX5 ∧ yX5_finish.cls ≠ "java/lang/invoke/MethodHandle" ∧ yX5_finish.cls ≠ "java/lang/invoke/VarHandle" ∧ (parseMethodDescriptor yX5_finish.desc).map (fun d => d.parameters.length) = some 1 := by decide +kernel
theorem hd_yJ6_bitCount_0f7a4 : yJ6_bitCount_0f7a4.cls = RJ6 ∧ yJ6_bitCount_0f7a4.cls ≠ "java/lang/invoke/MethodHandle" ∧ yJ6_bitCount_0f7a4.cls ≠ "java/lang/invoke/VarHandle" ∧ (parseMethodDescriptor yJ6_bitCount_0f7a4.desc).map (fun d => d.parameters.length) = some 1 := by decide +kernel
theorem hd_yJ9_abs_0f7a4 : yJ9_abs_0f7a4.cls = RJ9 ∧ yJ9_abs_0f7a4.cls ≠ "java/lang/invoke/MethodHandle" ∧ yJ9_abs_0f7a4.cls ≠ "java/lang/invoke/VarHandle" ∧ (parseMethodDescriptor yJ9_abs_0f7a4.desc).map (fun d => d.parameters.length) = some 1 := by decide +kernel
theorem hd_yJ9_max_7cf53 : yJ9_max_7cf53.cls = RJ9 ∧ yJ9_max_7cf53.cls ≠ "java/lang/invoke/MethodHandle" ∧ yJ9_max_7cf53.cls ≠ "java/lang/invoke/VarHandle" ∧ (parseMethodDescriptor yJ9_max_7cf53.desc).map (fun d => d.parameters.length) = some 2 := by decide +kernel
theorem hd_yJ9_min_7cf53 : yJ9_min_7cf53.cls = RJ9 ∧ yJ9_min_7cf53.cls ≠ "java/lang/invoke/MethodHandle" ∧ yJ9_min_7cf53.cls ≠ "java/lang/invoke/VarHandle" ∧ (parseMethodDescriptor yJ9_min_7cf53.desc).map (fun d => d.parameters.length) = some 2 := by decide +kernel
theorem hd_yJxa1e45_init_da8c8 : yJxa1e45_init_da8c8.cls = RJxa1e45 ∧ yJxa1e45_init_da8c8.cls ≠ "java/lang/invoke/MethodHandle" ∧ yJxa1e45_init_da8c8.cls ≠ "java/lang/invoke/VarHandle" ∧ (parseMethodDescriptor yJxa1e45_init_da8c8.desc).map (fun d => d.parameters.length) = some 0 := by decide +kernel
theorem hd_yJxc12de_init_da8c8 : yJxc12de_init_da8c8.cls = RJxc12de ∧ yJxc12de_init_da8c8.cls ≠ "java/lang/invoke/MethodHandle" ∧ yJxc12de_init_da8c8.cls ≠ "java/lang/invoke/VarHandle" ∧ (parseMethodDescriptor yJxc12de_init_da8c8.desc).map (fun d => d.parameters.length) = some 0 := by decide +kernel
theorem hd_yJx4a65c_init_da8c8 : yJx4a65c_init_da8c8.cls = RJx4a65c ∧ yJx4a65c_init_da8c8.cls ≠ "java/lang/invoke/MethodHandle" ∧ yJx4a65c_init_da8c8.cls ≠ "java/lang/invoke/VarHandle" ∧ (parseMethodDescriptor yJx4a65c_init_da8c8.desc).map (fun d => d.parameters.length) = some 0 := by decide +kernel
theorem hd_yJx4a65c_grow_92f84 : yJx4a65c_grow_92f84.cls = RJx4a65c ∧ yJx4a65c_grow_92f84.cls ≠ "java/lang/invoke/MethodHandle" ∧ yJx4a65c_grow_92f84.cls ≠ "java/lang/invoke/VarHandle" ∧ (parseMethodDescriptor yJx4a65c_grow_92f84.desc).map (fun d => d.parameters.length) = some 1 := by decide +kernel
theorem hd_yJx4a65c_grow_d5877 : yJx4a65c_grow_d5877.cls = RJx4a65c ∧ yJx4a65c_grow_d5877.cls ≠ "java/lang/invoke/MethodHandle" ∧ yJx4a65c_grow_d5877.cls ≠ "java/lang/invoke/VarHandle" ∧ (parseMethodDescriptor yJx4a65c_grow_d5877.desc).map (fun d => d.parameters.length) = some 0 := by decide +kernel
theorem hd_yJx4a65c_size_8abf5 : yJx4a65c_size_8abf5.cls = RJx4a65c ∧ yJx4a65c_size_8abf5.cls ≠ "java/lang/invoke/MethodHandle" ∧ yJx4a65c_size_8abf5.cls ≠ "java/lang/invoke/VarHandle" ∧ (parseMethodDescriptor yJx4a65c_size_8abf5.desc).map (fun d => d.parameters.length) = some 0 := by decide +kernel
theorem hd_yJx4a65c_isEmpty_aae02 : yJx4a65c_isEmpty_aae02.cls = RJx4a65c ∧ yJx4a65c_isEmpty_aae02.cls ≠ "java/lang/invoke/MethodHandle" ∧ yJx4a65c_isEmpty_aae02.cls ≠ "java/lang/invoke/VarHandle" ∧ (parseMethodDescriptor yJx4a65c_isEmpty_aae02.desc).map (fun d => d.parameters.length) = some 0 := by decide +kernel
theorem hd_yJx4a65c_elementData_915e3 : yJx4a65c_elementData_915e3.cls = RJx4a65c ∧ yJx4a65c_elementData_915e3.cls ≠ "java/lang/invoke/MethodHandle" ∧ yJx4a65c_elementData_915e3.cls ≠ "java/lang/invoke/VarHandle" ∧ (parseMethodDescriptor yJx4a65c_elementData_915e3.desc).map (fun d => d.parameters.length) = some 1 := by decide +kernel
theorem hd_yJx4a65c_get_915e3 : yJx4a65c_get_915e3.cls = RJx4a65c ∧ yJx4a65c_get_915e3.cls ≠ "java/lang/invoke/MethodHandle" ∧ yJx4a65c_get_915e3.cls ≠ "java/lang/invoke/VarHandle" ∧ (parseMethodDescriptor yJx4a65c_get_915e3.desc).map (fun d => d.parameters.length) = some 1 := by decide +kernel
theorem hd_yJx4a65c_add_72be8 : yJx4a65c_add_72be8.cls = RJx4a65c ∧ yJx4a65c_add_72be8.cls ≠ "java/lang/invoke/MethodHandle" ∧ yJx4a65c_add_72be8.cls ≠ "java/lang/invoke/VarHandle" ∧ (parseMethodDescriptor yJx4a65c_add_72be8.desc).map (fun d => d.parameters.length) = some 3 := by decide +kernel
theorem hd_yJx4a65c_add_9ea2d : yJx4a65c_add_9ea2d.cls = RJx4a65c ∧ yJx4a65c_add_9ea2d.cls ≠ "java/lang/invoke/MethodHandle" ∧ yJx4a65c_add_9ea2d.cls ≠ "java/lang/invoke/VarHandle" ∧ (parseMethodDescriptor yJx4a65c_add_9ea2d.desc).map (fun d => d.parameters.length) = some 1 := by decide +kernel
theorem hd_yJx4a65c_remove_915e3 : yJx4a65c_remove_915e3.cls = RJx4a65c ∧ yJx4a65c_remove_915e3.cls ≠ "java/lang/invoke/MethodHandle" ∧ yJx4a65c_remove_915e3.cls ≠ "java/lang/invoke/VarHandle" ∧ (parseMethodDescriptor yJx4a65c_remove_915e3.desc).map (fun d => d.parameters.length) = some 1 := by decide +kernel
theorem hd_yJx4a65c_fastRemove_b59b0 : yJx4a65c_fastRemove_b59b0.cls = RJx4a65c ∧ yJx4a65c_fastRemove_b59b0.cls ≠ "java/lang/invoke/MethodHandle" ∧ yJx4a65c_fastRemove_b59b0.cls ≠ "java/lang/invoke/VarHandle" ∧ (parseMethodDescriptor yJx4a65c_fastRemove_b59b0.desc).map (fun d => d.parameters.length) = some 2 := by decide +kernel
theorem hd_yJ7_copyOf_1904c : yJ7_copyOf_1904c.cls = RJ7 ∧ yJ7_copyOf_1904c.cls ≠ "java/lang/invoke/MethodHandle" ∧ yJ7_copyOf_1904c.cls ≠ "java/lang/invoke/VarHandle" ∧ (parseMethodDescriptor yJ7_copyOf_1904c.desc).map (fun d => d.parameters.length) = some 2 := by decide +kernel
theorem hd_yJ7_copyOf_6403c : yJ7_copyOf_6403c.cls = RJ7 ∧ yJ7_copyOf_6403c.cls ≠ "java/lang/invoke/MethodHandle" ∧ yJ7_copyOf_6403c.cls ≠ "java/lang/invoke/VarHandle" ∧ (parseMethodDescriptor yJ7_copyOf_6403c.desc).map (fun d => d.parameters.length) = some 3 := by decide +kernel
theorem hd_yJ15_checkIndex_7cf53 : yJ15_checkIndex_7cf53.cls = RJ15 ∧ yJ15_checkIndex_7cf53.cls ≠ "java/lang/invoke/MethodHandle" ∧ yJ15_checkIndex_7cf53.cls ≠ "java/lang/invoke/VarHandle" ∧ (parseMethodDescriptor yJ15_checkIndex_7cf53.desc).map (fun d => d.parameters.length) = some 2 := by decide +kernel
theorem hd_yJ8_newLength_cabcc : yJ8_newLength_cabcc.cls = RJ8 ∧ yJ8_newLength_cabcc.cls ≠ "java/lang/invoke/MethodHandle" ∧ yJ8_newLength_cabcc.cls ≠ "java/lang/invoke/VarHandle" ∧ (parseMethodDescriptor yJ8_newLength_cabcc.desc).map (fun d => d.parameters.length) = some 3 := by decide +kernel
theorem hd_yJ8_hugeLength_7cf53 : yJ8_hugeLength_7cf53.cls = RJ8 ∧ yJ8_hugeLength_7cf53.cls ≠ "java/lang/invoke/MethodHandle" ∧ yJ8_hugeLength_7cf53.cls ≠ "java/lang/invoke/VarHandle" ∧ (parseMethodDescriptor yJ8_hugeLength_7cf53.desc).map (fun d => d.parameters.length) = some 2 := by decide +kernel
theorem hd_yJ3_checkIndex_8e157 : yJ3_checkIndex_8e157.cls = RJ3 ∧ yJ3_checkIndex_8e157.cls ≠ "java/lang/invoke/MethodHandle" ∧ yJ3_checkIndex_8e157.cls ≠ "java/lang/invoke/VarHandle" ∧ (parseMethodDescriptor yJ3_checkIndex_8e157.desc).map (fun d => d.parameters.length) = some 3 := by decide +kernel
theorem hd_yL_cell : yL_cell.cls = RL ∧ yL_cell.cls ≠ "java/lang/invoke/MethodHandle" ∧ yL_cell.cls ≠ "java/lang/invoke/VarHandle" ∧ (parseMethodDescriptor yL_cell.desc).map (fun d => d.parameters.length) = some 2 := by decide +kernel
theorem hd_yL_low : yL_low.cls = RL ∧ yL_low.cls ≠ "java/lang/invoke/MethodHandle" ∧ yL_low.cls ≠ "java/lang/invoke/VarHandle" ∧ (parseMethodDescriptor yL_low.desc).map (fun d => d.parameters.length) = some 2 := by decide +kernel
theorem hd_yL_calls : yL_calls.cls = RL ∧ yL_calls.cls ≠ "java/lang/invoke/MethodHandle" ∧ yL_calls.cls ≠ "java/lang/invoke/VarHandle" ∧ (parseMethodDescriptor yL_calls.desc).map (fun d => d.parameters.length) = some 5 := by decide +kernel
theorem hd_yL_way : yL_way.cls = RL ∧ yL_way.cls ≠ "java/lang/invoke/MethodHandle" ∧ yL_way.cls ≠ "java/lang/invoke/VarHandle" ∧ (parseMethodDescriptor yL_way.desc).map (fun d => d.parameters.length) = some 3 := by decide +kernel
theorem hd_yL_wanted : yL_wanted.cls = RL ∧ yL_wanted.cls ≠ "java/lang/invoke/MethodHandle" ∧ yL_wanted.cls ≠ "java/lang/invoke/VarHandle" ∧ (parseMethodDescriptor yL_wanted.desc).map (fun d => d.parameters.length) = some 3 := by decide +kernel
theorem hd_yL_products : yL_products.cls = RL ∧ yL_products.cls ≠ "java/lang/invoke/MethodHandle" ∧ yL_products.cls ≠ "java/lang/invoke/VarHandle" ∧ (parseMethodDescriptor yL_products.desc).map (fun d => d.parameters.length) = some 4 := by decide +kernel
theorem hd_yL_lines : yL_lines.cls = RL ∧ yL_lines.cls ≠ "java/lang/invoke/MethodHandle" ∧ yL_lines.cls ≠ "java/lang/invoke/VarHandle" ∧ (parseMethodDescriptor yL_lines.desc).map (fun d => d.parameters.length) = some 3 := by decide +kernel
theorem hd_yL_route : yL_route.cls = RL ∧ yL_route.cls ≠ "java/lang/invoke/MethodHandle" ∧ yL_route.cls ≠ "java/lang/invoke/VarHandle" ∧ (parseMethodDescriptor yL_route.desc).map (fun d => d.parameters.length) = some 5 := by decide +kernel
theorem hd_yL_next : yL_next.cls = RL ∧ yL_next.cls ≠ "java/lang/invoke/MethodHandle" ∧ yL_next.cls ≠ "java/lang/invoke/VarHandle" ∧ (parseMethodDescriptor yL_next.desc).map (fun d => d.parameters.length) = some 2 := by decide +kernel
theorem hd_yL_through : yL_through.cls = RL ∧ yL_through.cls ≠ "java/lang/invoke/MethodHandle" ∧ yL_through.cls ≠ "java/lang/invoke/VarHandle" ∧ (parseMethodDescriptor yL_through.desc).map (fun d => d.parameters.length) = some 3 := by decide +kernel
theorem hd_yL_plans : yL_plans.cls = RL ∧ yL_plans.cls ≠ "java/lang/invoke/MethodHandle" ∧ yL_plans.cls ≠ "java/lang/invoke/VarHandle" ∧ (parseMethodDescriptor yL_plans.desc).map (fun d => d.parameters.length) = some 7 := by decide +kernel
theorem hd_yL_picks : yL_picks.cls = RL ∧ yL_picks.cls ≠ "java/lang/invoke/MethodHandle" ∧ yL_picks.cls ≠ "java/lang/invoke/VarHandle" ∧ (parseMethodDescriptor yL_picks.desc).map (fun d => d.parameters.length) = some 9 := by decide +kernel
theorem hd_yL_laysOut : yL_laysOut.cls = RL ∧ yL_laysOut.cls ≠ "java/lang/invoke/MethodHandle" ∧ yL_laysOut.cls ≠ "java/lang/invoke/VarHandle" ∧ (parseMethodDescriptor yL_laysOut.desc).map (fun d => d.parameters.length) = some 4 := by decide +kernel
theorem hd_yL_isBatch : yL_isBatch.cls = RL ∧ yL_isBatch.cls ≠ "java/lang/invoke/MethodHandle" ∧ yL_isBatch.cls ≠ "java/lang/invoke/VarHandle" ∧ (parseMethodDescriptor yL_isBatch.desc).map (fun d => d.parameters.length) = some 8 := by decide +kernel
theorem hd_yL_isSo : yL_isSo.cls = RL ∧ yL_isSo.cls ≠ "java/lang/invoke/MethodHandle" ∧ yL_isSo.cls ≠ "java/lang/invoke/VarHandle" ∧ (parseMethodDescriptor yL_isSo.desc).map (fun d => d.parameters.length) = some 9 := by decide +kernel
theorem hd_yL_law : yL_law.cls = RL ∧ yL_law.cls ≠ "java/lang/invoke/MethodHandle" ∧ yL_law.cls ≠ "java/lang/invoke/VarHandle" ∧ (parseMethodDescriptor yL_law.desc).map (fun d => d.parameters.length) = some 1 := by decide +kernel
def StrL : List (String × Nat × String) := [(RX5, 240, "the time is out of range"), (RX5, 109, "there are as many orders as there may be"), (RX5, 238, "no such product"), (RX5, 64, "no such place"), (RX5, 79, "another product is there, or there is a wave"), (RX5, 85, "there is a wave"), (RX5, 242, "no such order"), (RX5, 125, "quantity is out of range"), (RX5, 135, "the order can't have this line"), (RX5, 153, "lines is out of range"), (RX5, 158, "an order has more lines, or there is a wave"), (RX5, 163, "there is a wave, or it would take no order"), (RX5, 244, "no such batch"), (RX5, 98, "a product is at no place"), (RX5, 220, "no such stop"), (RX5, 211, "too many places to try"), (RX5, 222, "no such aisle")]
theorem s_RX5_240 : (RX5, 240, "the time is out of range") ∈ StrL := by decide +kernel
theorem s_RX5_109 : (RX5, 109, "there are as many orders as there may be") ∈ StrL := by decide +kernel
theorem s_RX5_238 : (RX5, 238, "no such product") ∈ StrL := by decide +kernel
theorem s_RX5_64 : (RX5, 64, "no such place") ∈ StrL := by decide +kernel
theorem s_RX5_79 : (RX5, 79, "another product is there, or there is a wave") ∈ StrL := by decide +kernel
theorem s_RX5_85 : (RX5, 85, "there is a wave") ∈ StrL := by decide +kernel
theorem s_RX5_242 : (RX5, 242, "no such order") ∈ StrL := by decide +kernel
theorem s_RX5_125 : (RX5, 125, "quantity is out of range") ∈ StrL := by decide +kernel
theorem s_RX5_135 : (RX5, 135, "the order can't have this line") ∈ StrL := by decide +kernel
theorem s_RX5_153 : (RX5, 153, "lines is out of range") ∈ StrL := by decide +kernel
theorem s_RX5_158 : (RX5, 158, "an order has more lines, or there is a wave") ∈ StrL := by decide +kernel
theorem s_RX5_163 : (RX5, 163, "there is a wave, or it would take no order") ∈ StrL := by decide +kernel
theorem s_RX5_244 : (RX5, 244, "no such batch") ∈ StrL := by decide +kernel
theorem s_RX5_98 : (RX5, 98, "a product is at no place") ∈ StrL := by decide +kernel
theorem s_RX5_220 : (RX5, 220, "no such stop") ∈ StrL := by decide +kernel
theorem s_RX5_211 : (RX5, 211, "too many places to try") ∈ StrL := by decide +kernel
theorem s_RX5_222 : (RX5, 222, "no such aisle") ∈ StrL := by decide +kernel
theorem ul_X0 : ∀ w ∈ wsX00, w ∈ UW := by decide +kernel
theorem ul_X1 : ∀ w ∈ wsX10, w ∈ UW := by decide +kernel
theorem ul_X2 : ∀ w ∈ wsX20, w ∈ UW := by decide +kernel
theorem ul_X3 : ∀ w ∈ wsX30, w ∈ UW := by decide +kernel
theorem ul_X4 : ∀ w ∈ wsX40, w ∈ UW := by decide +kernel
theorem ul_X5 : ∀ w ∈ wsX50, w ∈ UW := by decide +kernel
theorem ul_X6 : ∀ w ∈ wsX60, w ∈ UW := by decide +kernel
theorem ul_Jx4a65c : ∀ w ∈ wsJx4a65c0, w ∈ UW := by decide +kernel
