def P_X5_checkProduct (S : Sto) (x : Int) : Option Value → Sto → Prop := fun v u => v = none ∧ (0 ≤ x ∧ x < 20) ∧ S = u
def T_X5_checkProduct (S : Sto) (x : Int) : String → Sto → Prop := fun E u => E = "java/lang/IndexOutOfBoundsException" ∧ ¬ (0 ≤ x ∧ x < 20) ∧ S = u
set_option maxRecDepth 100000 in
set_option maxHeartbeats 4000000 in
theorem ct_X5_checkProduct (l : Launch) (g : GG) (hnt : l.stackTraces = false) (S : Sto) (x : Int) (hx : inR x) : MetX l g yX5_checkProduct cX5_checkProduct 1 (none) 6 1 6 [.int (iI x)] S (P_X5_checkProduct S x) (T_X5_checkProduct S x) := by
  refine MetX.of (own := RX5) (lv := [(0, .int (iI x))]) (by decide) rfl (Nat.le_of_ble_eq_true rfl) rfl ?_
  intro pX eX sX mX argsX belowX methX cX C hne
  refine KRg (fun hR => ?_)
  obtain ⟨hx1, hx2⟩ := hx
  refine KIload_n C dX5_checkProduct_0 rfl 0 rfl ?_
  refine KIf_lt (tgt := 10) C dX5_checkProduct_1 (by decide) ⟨by omega, by omega⟩ (fun c1 => ?_) (fun c1 => ?_)
  · refine KThrow (cls := "java/lang/IndexOutOfBoundsException") (text := "no such product") (ik := 62) (is := 238) (ic := 66) C hnt hne fit_java_lang_IndexOutOfBoundsException u_cl_RX5_62 u_in_java_lang_IndexOutOfBoundsException (show ∃ sa, vk_R RX5 238 "no such product" sa sX from C.nws.2.2.2 (RX5, 238, "no such product") s_RX5_238) (thr_words_RX5_66 C.words C.nws) (thr_good2_RX5_66) (Nat.le_of_ble_eq_true rfl) (Nat.le_of_ble_eq_true rfl) ⟨Nat.le_of_ble_eq_true rfl, Nat.le_of_ble_eq_true rfl⟩ (by
      exact ⟨rfl, by omega, rfl⟩) ⟨Nat.le_of_ble_eq_true rfl, Nat.le_of_ble_eq_true rfl⟩ dX5_checkProduct_10 dX5_checkProduct_13 dX5_checkProduct_14 dX5_checkProduct_16 dX5_checkProduct_19
  · refine KIload_n C dX5_checkProduct_4 rfl 0 rfl ?_
    refine KBipush C dX5_checkProduct_5 (by decide) ?_
    refine KIcmp_lt (tgt := 20) C dX5_checkProduct_7 (by decide) ⟨by omega, by omega⟩ ⟨by omega, by omega⟩ (fun c7 => ?_) (fun c7 => ?_)
    · refine KX ?_
      refine KVret C rfl (by
        exact ⟨rfl, by omega, rfl⟩) (by decide) (by decide) dX5_checkProduct_20
    · refine KThrow (cls := "java/lang/IndexOutOfBoundsException") (text := "no such product") (ik := 62) (is := 238) (ic := 66) C hnt hne fit_java_lang_IndexOutOfBoundsException u_cl_RX5_62 u_in_java_lang_IndexOutOfBoundsException (show ∃ sa, vk_R RX5 238 "no such product" sa sX from C.nws.2.2.2 (RX5, 238, "no such product") s_RX5_238) (thr_words_RX5_66 C.words C.nws) (thr_good2_RX5_66) (Nat.le_of_ble_eq_true rfl) (Nat.le_of_ble_eq_true rfl) ⟨Nat.le_of_ble_eq_true rfl, Nat.le_of_ble_eq_true rfl⟩ (by
        exact ⟨rfl, by omega, rfl⟩) ⟨Nat.le_of_ble_eq_true rfl, Nat.le_of_ble_eq_true rfl⟩ dX5_checkProduct_10 dX5_checkProduct_13 dX5_checkProduct_14 dX5_checkProduct_16 dX5_checkProduct_19
def P_X5_checkTime (S : Sto) (x : Int) : Option Value → Sto → Prop := fun v u => v = none ∧ (0 ≤ x ∧ x ≤ 999) ∧ S = u
def T_X5_checkTime (S : Sto) (x : Int) : String → Sto → Prop := fun E u => E = "java/lang/IllegalArgumentException" ∧ ¬ (0 ≤ x ∧ x ≤ 999) ∧ S = u
set_option maxRecDepth 100000 in
set_option maxHeartbeats 4000000 in
theorem ct_X5_checkTime (l : Launch) (g : GG) (hnt : l.stackTraces = false) (S : Sto) (x : Int) (hx : inR x) : MetX l g yX5_checkTime cX5_checkTime 1 (none) 6 1 6 [.int (iI x)] S (P_X5_checkTime S x) (T_X5_checkTime S x) := by
  refine MetX.of (own := RX5) (lv := [(0, .int (iI x))]) (by decide) rfl (Nat.le_of_ble_eq_true rfl) rfl ?_
  intro pX eX sX mX argsX belowX methX cX C hne
  refine KRg (fun hR => ?_)
  obtain ⟨hx1, hx2⟩ := hx
  refine KIload_n C dX5_checkTime_0 rfl 0 rfl ?_
  refine KIf_lt (tgt := 11) C dX5_checkTime_1 (by decide) ⟨by omega, by omega⟩ (fun c1 => ?_) (fun c1 => ?_)
  · refine KThrow (cls := "java/lang/IllegalArgumentException") (text := "the time is out of range") (ik := 123) (is := 240) (ic := 127) C hnt hne fit_java_lang_IllegalArgumentException u_cl_RX5_123 u_in_java_lang_IllegalArgumentException (show ∃ sa, vk_R RX5 240 "the time is out of range" sa sX from C.nws.2.2.2 (RX5, 240, "the time is out of range") s_RX5_240) (thr_words_RX5_127 C.words C.nws) (thr_good_RX5_127) (Nat.le_of_ble_eq_true rfl) (Nat.le_of_ble_eq_true rfl) ⟨Nat.le_of_ble_eq_true rfl, Nat.le_of_ble_eq_true rfl⟩ (by
      exact ⟨rfl, by omega, rfl⟩) ⟨Nat.le_of_ble_eq_true rfl, Nat.le_of_ble_eq_true rfl⟩ dX5_checkTime_11 dX5_checkTime_14 dX5_checkTime_15 dX5_checkTime_17 dX5_checkTime_20
  · refine KIload_n C dX5_checkTime_4 rfl 0 rfl ?_
    refine KSipush C dX5_checkTime_5 (by decide) ?_
    refine KIcmp_le (tgt := 21) C dX5_checkTime_8 (by decide) ⟨by omega, by omega⟩ ⟨by omega, by omega⟩ (fun c8 => ?_) (fun c8 => ?_)
    · refine KX ?_
      refine KVret C rfl (by
        exact ⟨rfl, by omega, rfl⟩) (by decide) (by decide) dX5_checkTime_21
    · refine KThrow (cls := "java/lang/IllegalArgumentException") (text := "the time is out of range") (ik := 123) (is := 240) (ic := 127) C hnt hne fit_java_lang_IllegalArgumentException u_cl_RX5_123 u_in_java_lang_IllegalArgumentException (show ∃ sa, vk_R RX5 240 "the time is out of range" sa sX from C.nws.2.2.2 (RX5, 240, "the time is out of range") s_RX5_240) (thr_words_RX5_127 C.words C.nws) (thr_good_RX5_127) (Nat.le_of_ble_eq_true rfl) (Nat.le_of_ble_eq_true rfl) ⟨Nat.le_of_ble_eq_true rfl, Nat.le_of_ble_eq_true rfl⟩ (by
        exact ⟨rfl, by omega, rfl⟩) ⟨Nat.le_of_ble_eq_true rfl, Nat.le_of_ble_eq_true rfl⟩ dX5_checkTime_11 dX5_checkTime_14 dX5_checkTime_15 dX5_checkTime_17 dX5_checkTime_20
def P_X5_within (S : Sto) (x : Int) (y : Int) : Option Value → Sto → Prop := fun v u => v = some (.int (iI (maxI 1 (minI x y)))) ∧ S = u
set_option maxRecDepth 100000 in
set_option maxHeartbeats 4000000 in
theorem ct_X5_within (l : Launch) (g : GG) (S : Sto) (x : Int) (y : Int) (hx : inR x ∧ inR y) : MetS l g yX5_within cX5_within 2 (some FieldType.int) 2 0 0 [.int (iI x), .int (iI y)] S (P_X5_within S x y) := by
  refine MetS.of (own := RX5) (lv := [(0, .int (iI x)), (1, .int (iI y))]) (by decide) rfl (Nat.le_of_ble_eq_true rfl) rfl ?_
  intro pX eX sX mX argsX belowX methX cX C hin
  refine KRg (fun hR => ?_)
  obtain ⟨⟨hx1, hx2⟩, hy1, hy2⟩ := hx
  refine KIconst C dX5_within_0 ?_
  refine KIload_n C dX5_within_1 rfl 0 rfl ?_
  refine KIload_n C dX5_within_2 rfl 1 rfl ?_
  refine KMmin (z := minI x y) C ⟨by omega, by omega⟩ ⟨by omega, by omega⟩ rfl u_ml_RX5_230 u_st_yJ9_min_7cf53 u_in_RJ9 u_co_yJ9_min_7cf53 ⟨Nat.le_of_ble_eq_true rfl, Nat.le_of_ble_eq_true rfl⟩ ⟨Nat.le_of_ble_eq_true rfl, Nat.le_of_ble_eq_true rfl⟩ dX5_within_3 ?_
  have mb1 := minI_b x y
  refine KMmax (z := maxI 1 (minI x y)) C ⟨by omega, by omega⟩ ⟨by omega, by omega⟩ rfl u_ml_RX5_235 u_st_yJ9_max_7cf53 u_in_RJ9 u_co_yJ9_max_7cf53 ⟨Nat.le_of_ble_eq_true rfl, Nat.le_of_ble_eq_true rfl⟩ ⟨Nat.le_of_ble_eq_true rfl, Nat.le_of_ble_eq_true rfl⟩ dX5_within_6 ?_
  have mb2 := maxI_b 1 (minI x y)
  refine KIret C rfl rfl (by
    exact ⟨rfl, rfl⟩) (by decide) (by decide) dX5_within_9
def P_X5_orderNumbered (S : Sto) (q : Nat → Nat) (x : Int) (w : Shp) (n : Nat) : Option Value → Sto → Prop := fun v u => ∃ o : Nat, x = (o : Int) ∧ o < n ∧ v = some (.ref (wo w o)) ∧ S = u
def T_X5_orderNumbered (S : Sto) (q : Nat → Nat) (x : Int) (w : Shp) (n : Nat) : String → Sto → Prop := fun E u => E = "java/lang/IndexOutOfBoundsException" ∧ ¬ (0 ≤ x ∧ x < (n : Int)) ∧ S = u
set_option maxRecDepth 100000 in
set_option maxHeartbeats 4000000 in
theorem ct_X5_orderNumbered (l : Launch) (g : GG) (hnt : l.stackTraces = false) (S : Sto) (q : Nat → Nat) (x : Int) (w : Shp) (n : Nat) (hT : Top S q) (hBk : Bok S q (gT g) w n) (hx : inR x) : MetX l g yX5_orderNumbered cX5_orderNumbered 2 (some (FieldType.object "Aislewright$Order")) 6 1 6 [.ref (q 0), .int (iI x)] S (P_X5_orderNumbered S q x w n) (T_X5_orderNumbered S q x w n) := by
  refine MetX.of (own := RX5) (lv := [(0, .ref (q 0)), (1, .int (iI x))]) (by decide) rfl (Nat.le_of_ble_eq_true rfl) rfl ?_
  intro pX eX sX mX argsX belowX methX cX C hne
  refine KRg (fun hR => ?_)
  have hn4 := hBk.1.2.2.2.1
  have hn40 := hBk.1.2.2.2.2.1
  obtain ⟨hx1, hx2⟩ := hx
  refine KIload_n C dX5_orderNumbered_0 rfl 1 rfl ?_
  refine KIf_lt (tgt := 15) C dX5_orderNumbered_1 (by decide) ⟨by omega, by omega⟩ (fun c1 => ?_) (fun c1 => ?_)
  · refine KThrow (cls := "java/lang/IndexOutOfBoundsException") (text := "no such order") (ik := 62) (is := 242) (ic := 66) C hnt hne fit_java_lang_IndexOutOfBoundsException u_cl_RX5_62 u_in_java_lang_IndexOutOfBoundsException (show ∃ sa, vk_R RX5 242 "no such order" sa sX from C.nws.2.2.2 (RX5, 242, "no such order") s_RX5_242) (thr_words_RX5_66 C.words C.nws) (thr_good2_RX5_66) (Nat.le_of_ble_eq_true rfl) (Nat.le_of_ble_eq_true rfl) ⟨Nat.le_of_ble_eq_true rfl, Nat.le_of_ble_eq_true rfl⟩ (by
      exact ⟨rfl, by omega, rfl⟩) ⟨Nat.le_of_ble_eq_true rfl, Nat.le_of_ble_eq_true rfl⟩ dX5_orderNumbered_15 dX5_orderNumbered_18 dX5_orderNumbered_19 dX5_orderNumbered_21 dX5_orderNumbered_24
  · refine KIload_n C dX5_orderNumbered_4 rfl 1 rfl ?_
    refine KAload_n C dX5_orderNumbered_5 rfl 0 rfl ?_
    refine KGetR C ul_X5 rfl (by decide) 3 3 rfl (by decide) rfl u_fl_RX5_43 (hT.at0 0 6) (b := q 4) (hT.ptr 0 3 4) dX5_orderNumbered_6 (fun _ h => h) ?_
    refine KCallV (As := []) (b := q 4) (st := [.int (iI x)]) C (ct_Jx4a65c_size_8abf5 l g S (q 4) (w4 w) (k4 w) n hBk.1) u_ml_RX5_106 u_im_yJx4a65c_size_8abf5 u_se_yJx4a65c_size_8abf5 u_in_RJx4a65c u_co_yJx4a65c_size_8abf5 hd_yJx4a65c_size_8abf5 (hT.at0 4 0) (by decide) rfl rfl ⟨Nat.le_of_ble_eq_true rfl, Nat.le_of_ble_eq_true rfl⟩ ⟨Nat.le_of_ble_eq_true rfl, Nat.le_of_ble_eq_true rfl⟩ (Nat.le_of_ble_eq_true rfl) dX5_orderNumbered_9 rfl (fun v9 u9 hp9 => ?_)
    obtain ⟨rfl, rfl⟩ := hp9
    refine KSt (st2 := [.int (iI (n : Int)), .int (iI x)]) rfl ?_
    refine KIcmp_lt (tgt := 25) C dX5_orderNumbered_12 (by decide) ⟨by omega, by omega⟩ ⟨by omega, by omega⟩ (fun c12 => ?_) (fun c12 => ?_)
    · obtain ⟨o, ho⟩ : ∃ o : Nat, x = (o : Int) := ⟨x.toNat, by omega⟩
      refine KLvE (lv2 := [(0, .ref (q 0)), (1, .int (iI (o : Int)))]) (congrArg (fun zz : Int => ([(0, .ref (q 0)), (1, .int (iI zz))] : List (Nat × Value))) (show (x : Int) = (o : Int) from ho)) ?_
      refine KAload_n C dX5_orderNumbered_25 rfl 0 rfl ?_
      refine KGetR C ul_X5 rfl (by decide) 3 3 rfl (by decide) rfl u_fl_RX5_43 (hT.at0 0 6) (b := q 4) (hT.ptr 0 3 4) dX5_orderNumbered_26 (fun _ h => h) ?_
      refine KIload_n C dX5_orderNumbered_29 rfl 1 rfl ?_
      refine KCallV (As := [.int (iI (o : Int))]) (b := q 4) (st := []) C (ct_Jx4a65c_get_915e3 l g S (q 4) (w4 w) (k4 w) n hBk.1 o (wo w o) (by omega) ((hBk.2.1 o (by omega)).1)) u_ml_RX5_165 u_im_yJx4a65c_get_915e3 u_se_yJx4a65c_get_915e3 u_in_RJx4a65c u_co_yJx4a65c_get_915e3 hd_yJx4a65c_get_915e3 (hT.at0 4 0) (by decide) rfl rfl ⟨Nat.le_of_ble_eq_true rfl, Nat.le_of_ble_eq_true rfl⟩ ⟨Nat.le_of_ble_eq_true rfl, Nat.le_of_ble_eq_true rfl⟩ (Nat.le_of_ble_eq_true rfl) dX5_orderNumbered_30 rfl (fun v30 u30 hp30 => ?_)
      obtain ⟨rfl, rfl⟩ := hp30
      refine KSt (st2 := [.ref (wo w o)]) rfl ?_
      refine KCast C u_cl_RX5_111 (hBk.2.1 o (by omega)).2.1 (by decide) rfl rfl dX5_orderNumbered_33 ?_
      refine KX ?_
      refine KAret (v := some (wo w o)) C rfl (by first | exact Or.inl ⟨_, rfl⟩ | exact Or.inr ⟨_, rfl⟩) (by
        exact ⟨o, ho, by omega, rfl, rfl⟩) (by decide) (by decide) dX5_orderNumbered_36
    · refine KThrow (cls := "java/lang/IndexOutOfBoundsException") (text := "no such order") (ik := 62) (is := 242) (ic := 66) C hnt hne fit_java_lang_IndexOutOfBoundsException u_cl_RX5_62 u_in_java_lang_IndexOutOfBoundsException (show ∃ sa, vk_R RX5 242 "no such order" sa sX from C.nws.2.2.2 (RX5, 242, "no such order") s_RX5_242) (thr_words_RX5_66 C.words C.nws) (thr_good2_RX5_66) (Nat.le_of_ble_eq_true rfl) (Nat.le_of_ble_eq_true rfl) ⟨Nat.le_of_ble_eq_true rfl, Nat.le_of_ble_eq_true rfl⟩ (by
        exact ⟨rfl, by omega, rfl⟩) ⟨Nat.le_of_ble_eq_true rfl, Nat.le_of_ble_eq_true rfl⟩ dX5_orderNumbered_15 dX5_orderNumbered_18 dX5_orderNumbered_19 dX5_orderNumbered_21 dX5_orderNumbered_24
def P_X5_batchNumbered (S : Sto) (q : Nat → Nat) (x : Int) (w : Shp) (n : Nat) : Option Value → Sto → Prop := fun v u => ∃ o : Nat, x = (o : Int) ∧ o < n ∧ v = some (.ref (wb w o)) ∧ S = u
def T_X5_batchNumbered (S : Sto) (q : Nat → Nat) (x : Int) (w : Shp) (n : Nat) : String → Sto → Prop := fun E u => E = "java/lang/IndexOutOfBoundsException" ∧ ¬ (0 ≤ x ∧ x < (n : Int)) ∧ S = u
set_option maxRecDepth 100000 in
set_option maxHeartbeats 4000000 in
theorem ct_X5_batchNumbered (l : Launch) (g : GG) (hnt : l.stackTraces = false) (S : Sto) (q : Nat → Nat) (x : Int) (w : Shp) (n : Nat) (hT : Top S q) (hBt : Bts S q (gT g) w n) (hx : inR x) : MetX l g yX5_batchNumbered cX5_batchNumbered 2 (some (FieldType.object "Aislewright$Batch")) 6 1 6 [.ref (q 0), .int (iI x)] S (P_X5_batchNumbered S q x w n) (T_X5_batchNumbered S q x w n) := by
  refine MetX.of (own := RX5) (lv := [(0, .ref (q 0)), (1, .int (iI x))]) (by decide) rfl (Nat.le_of_ble_eq_true rfl) rfl ?_
  intro pX eX sX mX argsX belowX methX cX C hne
  refine KRg (fun hR => ?_)
  have hn5 := hBt.1.2.2.2.1
  have hn60 := hBt.1.2.2.2.2.1
  obtain ⟨hx1, hx2⟩ := hx
  refine KIload_n C dX5_batchNumbered_0 rfl 1 rfl ?_
  refine KIf_lt (tgt := 15) C dX5_batchNumbered_1 (by decide) ⟨by omega, by omega⟩ (fun c1 => ?_) (fun c1 => ?_)
  · refine KThrow (cls := "java/lang/IndexOutOfBoundsException") (text := "no such batch") (ik := 62) (is := 244) (ic := 66) C hnt hne fit_java_lang_IndexOutOfBoundsException u_cl_RX5_62 u_in_java_lang_IndexOutOfBoundsException (show ∃ sa, vk_R RX5 244 "no such batch" sa sX from C.nws.2.2.2 (RX5, 244, "no such batch") s_RX5_244) (thr_words_RX5_66 C.words C.nws) (thr_good2_RX5_66) (Nat.le_of_ble_eq_true rfl) (Nat.le_of_ble_eq_true rfl) ⟨Nat.le_of_ble_eq_true rfl, Nat.le_of_ble_eq_true rfl⟩ (by
      exact ⟨rfl, by omega, rfl⟩) ⟨Nat.le_of_ble_eq_true rfl, Nat.le_of_ble_eq_true rfl⟩ dX5_batchNumbered_15 dX5_batchNumbered_18 dX5_batchNumbered_19 dX5_batchNumbered_21 dX5_batchNumbered_24
  · refine KIload_n C dX5_batchNumbered_4 rfl 1 rfl ?_
    refine KAload_n C dX5_batchNumbered_5 rfl 0 rfl ?_
    refine KGetR C ul_X5 rfl (by decide) 2 2 rfl (by decide) rfl u_fl_RX5_36 (hT.at0 0 6) (b := q 3) (hT.ptr 0 2 3) dX5_batchNumbered_6 (fun _ h => h) ?_
    refine KCallV (As := []) (b := q 3) (st := [.int (iI x)]) C (ct_X4_size l g S q w n hT hBt) u_ml_RX5_179 u_im_yX4_size u_se_yX4_size u_in_RX4 u_co_yX4_size hd_yX4_size (hT.at0 3 5) (by decide) rfl rfl ⟨Nat.le_of_ble_eq_true rfl, Nat.le_of_ble_eq_true rfl⟩ ⟨Nat.le_of_ble_eq_true rfl, Nat.le_of_ble_eq_true rfl⟩ (Nat.le_of_ble_eq_true rfl) dX5_batchNumbered_9 rfl (fun v9 u9 hp9 => ?_)
    obtain ⟨rfl, rfl⟩ := hp9
    refine KSt (st2 := [.int (iI (n : Int)), .int (iI x)]) rfl ?_
    refine KIcmp_lt (tgt := 25) C dX5_batchNumbered_12 (by decide) ⟨by omega, by omega⟩ ⟨by omega, by omega⟩ (fun c12 => ?_) (fun c12 => ?_)
    · obtain ⟨o, ho⟩ : ∃ o : Nat, x = (o : Int) := ⟨x.toNat, by omega⟩
      refine KLvE (lv2 := [(0, .ref (q 0)), (1, .int (iI (o : Int)))]) (congrArg (fun zz : Int => ([(0, .ref (q 0)), (1, .int (iI zz))] : List (Nat × Value))) (show (x : Int) = (o : Int) from ho)) ?_
      refine KAload_n C dX5_batchNumbered_25 rfl 0 rfl ?_
      refine KGetR C ul_X5 rfl (by decide) 2 2 rfl (by decide) rfl u_fl_RX5_36 (hT.at0 0 6) (b := q 3) (hT.ptr 0 2 3) dX5_batchNumbered_26 (fun _ h => h) ?_
      refine KGetRN C ul_X4 rfl (by decide) 1 1 rfl (by decide) rfl n_fn_RX5_246 (hT.at0 3 5) (b := q 5) (hT.ptr 3 1 5) dX5_batchNumbered_29 (fun _ h => h) ?_
      refine KIload_n C dX5_batchNumbered_32 rfl 1 rfl ?_
      refine KCallV (As := [.int (iI (o : Int))]) (b := q 5) (st := []) C (ct_Jx4a65c_get_915e3 l g S (q 5) (w5 w) (k5 w) n hBt.1 o (wb w o) (by omega) ((hBt.2.1 o (by omega)).1)) u_ml_RX5_165 u_im_yJx4a65c_get_915e3 u_se_yJx4a65c_get_915e3 u_in_RJx4a65c u_co_yJx4a65c_get_915e3 hd_yJx4a65c_get_915e3 (hT.at0 5 0) (by decide) rfl rfl ⟨Nat.le_of_ble_eq_true rfl, Nat.le_of_ble_eq_true rfl⟩ ⟨Nat.le_of_ble_eq_true rfl, Nat.le_of_ble_eq_true rfl⟩ (Nat.le_of_ble_eq_true rfl) dX5_batchNumbered_33 rfl (fun v33 u33 hp33 => ?_)
      obtain ⟨rfl, rfl⟩ := hp33
      refine KSt (st2 := [.ref (wb w o)]) rfl ?_
      refine KCast C u_cl_RX5_185 (hBt.2.1 o (by omega)).2 (by decide) rfl rfl dX5_batchNumbered_36 ?_
      refine KX ?_
      refine KAret (v := some (wb w o)) C rfl (by first | exact Or.inl ⟨_, rfl⟩ | exact Or.inr ⟨_, rfl⟩) (by
        exact ⟨o, ho, by omega, rfl, rfl⟩) (by decide) (by decide) dX5_batchNumbered_39
    · refine KThrow (cls := "java/lang/IndexOutOfBoundsException") (text := "no such batch") (ik := 62) (is := 244) (ic := 66) C hnt hne fit_java_lang_IndexOutOfBoundsException u_cl_RX5_62 u_in_java_lang_IndexOutOfBoundsException (show ∃ sa, vk_R RX5 244 "no such batch" sa sX from C.nws.2.2.2 (RX5, 244, "no such batch") s_RX5_244) (thr_words_RX5_66 C.words C.nws) (thr_good2_RX5_66) (Nat.le_of_ble_eq_true rfl) (Nat.le_of_ble_eq_true rfl) ⟨Nat.le_of_ble_eq_true rfl, Nat.le_of_ble_eq_true rfl⟩ (by
        exact ⟨rfl, by omega, rfl⟩) ⟨Nat.le_of_ble_eq_true rfl, Nat.le_of_ble_eq_true rfl⟩ dX5_batchNumbered_15 dX5_batchNumbered_18 dX5_batchNumbered_19 dX5_batchNumbered_21 dX5_batchNumbered_24
def P_X5_takesLine (S : Sto) (q : Nat → Nat) (a : Nat) (m : Nat) : Option Value → Sto → Prop := fun v u => ((sI S a 3 = 0 ∧ (cntb m 20 : Int) < 5 ∧ (cntb m 20 : Int) < sI S (q 0) 4) ∧ v = some (.int (iI 1)) ∨ ¬(sI S a 3 = 0 ∧ (cntb m 20 : Int) < 5 ∧ (cntb m 20 : Int) < sI S (q 0) 4) ∧ v = some (.int (iI 0))) ∧ S = u
set_option maxRecDepth 100000 in
set_option maxHeartbeats 4000000 in
theorem ct_X5_takesLine (l : Launch) (g : GG) (S : Sto) (q : Nat → Nat) (a : Nat) (m : Nat) (hT : Top S q) (ha : At0 S a 2) (hm2 : sI S a 2 = (m : Int)) (hm : m < 1048576) : MetS l g yX5_takesLine cX5_takesLine 3 (some FieldType.boolean) 3 0 0 [.ref (q 0), .ref a] S (P_X5_takesLine S q a m) := by
  refine MetS.of (own := RX5) (lv := [(0, .ref (q 0)), (1, .ref a)]) (by decide) rfl (Nat.le_of_ble_eq_true rfl) rfl ?_
  intro pX eX sX mX argsX belowX methX cX C hin
  refine KRg (fun hR => ?_)
  have hcb := cntb_le m 20
  refine KAload_n C dX5_takesLine_0 rfl 1 rfl ?_
  refine KCallV (As := []) (b := a) (st := []) C (ct_X1_countLines l g S a ha m hm2 hm) u_ml_RX5_141 u_im_yX1_countLines u_se_yX1_countLines u_in_RX1 u_co_yX1_countLines hd_yX1_countLines ha (by decide) rfl rfl ⟨Nat.le_of_ble_eq_true rfl, Nat.le_of_ble_eq_true rfl⟩ ⟨Nat.le_of_ble_eq_true rfl, Nat.le_of_ble_eq_true rfl⟩ (Nat.le_of_ble_eq_true rfl) dX5_takesLine_1 rfl (fun v1 u1 hp1 => ?_)
  obtain ⟨rfl, rfl⟩ := hp1
  refine KSt (st2 := [.int (iI ((cntb m 20 : Nat) : Int))]) rfl ?_
  refine KIstore_n (lv' := [(2, .int (iI ((cntb m 20 : Nat) : Int))), (0, .ref (q 0)), (1, .ref a)]) C dX5_takesLine_4 rfl (by decide) rfl ?_
  refine KAload_n C dX5_takesLine_5 rfl 2 rfl ?_
  refine KGetIN C ul_X1 rfl (by decide) 3 3 rfl (by decide) rfl n_fn_RX5_144 ha (v := sI S a 3) rfl dX5_takesLine_6 (fun _ h => h) ?_
  have rb1 := hR.b a 3 (v := sI S a 3) rfl
  refine KIf_ne (tgt := 29) C dX5_takesLine_9 (by decide) ⟨by omega, by omega⟩ (fun c9 => ?_) (fun c9 => ?_)
  · refine KIconst C dX5_takesLine_29 ?_
    refine KIret C rfl rfl (by
      first | exact ⟨Or.inl ⟨by omega, rfl⟩, rfl⟩ | exact ⟨Or.inr ⟨by omega, rfl⟩, rfl⟩) (by decide) (by decide) dX5_takesLine_30
  · refine KIload_n C dX5_takesLine_12 rfl 0 rfl ?_
    refine KIconst C dX5_takesLine_13 ?_
    refine KIcmp_ge (tgt := 29) C dX5_takesLine_14 (by decide) ⟨by omega, by omega⟩ ⟨by omega, by omega⟩ (fun c14 => ?_) (fun c14 => ?_)
    · refine KIconst C dX5_takesLine_29 ?_
      refine KIret C rfl rfl (by
        first | exact ⟨Or.inl ⟨by omega, rfl⟩, rfl⟩ | exact ⟨Or.inr ⟨by omega, rfl⟩, rfl⟩) (by decide) (by decide) dX5_takesLine_30
    · refine KIload_n C dX5_takesLine_17 rfl 0 rfl ?_
      refine KAload_n C dX5_takesLine_18 rfl 1 rfl ?_
      refine KGetI C ul_X5 rfl (by decide) 4 4 rfl (by decide) rfl u_fl_RX5_47 (hT.at0 0 6) (v := sI S (q 0) 4) rfl dX5_takesLine_19 (fun _ h => h) ?_
      have rb2 := hR.b (q 0) 4 (v := sI S (q 0) 4) rfl
      refine KIcmp_ge (tgt := 29) C dX5_takesLine_22 (by decide) ⟨by omega, by omega⟩ ⟨by omega, by omega⟩ (fun c22 => ?_) (fun c22 => ?_)
      · refine KIconst C dX5_takesLine_29 ?_
        refine KIret C rfl rfl (by
          first | exact ⟨Or.inl ⟨by omega, rfl⟩, rfl⟩ | exact ⟨Or.inr ⟨by omega, rfl⟩, rfl⟩) (by decide) (by decide) dX5_takesLine_30
      · refine KIconst C dX5_takesLine_25 ?_
        refine KGoto (tgt := 30) C dX5_takesLine_26 (by decide) ?_
        refine KIret C rfl rfl (by
          first | exact ⟨Or.inl ⟨by omega, rfl⟩, rfl⟩ | exact ⟨Or.inr ⟨by omega, rfl⟩, rfl⟩) (by decide) (by decide) dX5_takesLine_30
def P_X5_mostLinesToDo (S : Sto) (q : Nat → Nat) (w : Shp) (z : Sig) : Option Value → Sto → Prop := fun v u => v = some (.int (iI (mxl z (zo z)))) ∧ S = u
set_option maxRecDepth 100000 in
set_option maxHeartbeats 4000000 in
theorem ct_X5_mostLinesToDo (l : Launch) (g : GG) (S : Sto) (q : Nat → Nat) (w : Shp) (z : Sig) (hT : Top S q) (hW : Wf z) (hBk : Bok S q (gT g) w (zo z)) (hOr : OrV S w z (zo z)) : MetS l g yX5_mostLinesToDo cX5_mostLinesToDo 4 (some FieldType.int) 4 0 0 [.ref (q 0)] S (P_X5_mostLinesToDo S q w z) := by
  refine MetS.of (own := RX5) (lv := [(0, .ref (q 0))]) (by decide) rfl (Nat.le_of_ble_eq_true rfl) rfl ?_
  intro pX eX sX mX argsX belowX methX cX C hin
  refine KRg (fun hR => ?_)
  have hn4 := hBk.1.2.2.2.1
  have hn40 := hBk.1.2.2.2.2.1
  refine KIconst C dX5_mostLinesToDo_0 ?_
  refine KIstore_n (lv' := [(1, .int (iI 0)), (0, .ref (q 0))]) C dX5_mostLinesToDo_1 rfl (by decide) rfl ?_
  refine KIconst C dX5_mostLinesToDo_2 ?_
  refine KIstore_n (lv' := [(2, .int (iI 0)), (1, .int (iI 0)), (0, .ref (q 0))]) C dX5_mostLinesToDo_3 rfl (by decide) rfl ?_
  refine KLv (lv' := [(0, .ref (q 0)), (1, .int (iI 0)), (2, .int (iI 0))]) [2, 1, 0] rfl ?_
  have loop4 : ∀ (nX : Nat) (k : Nat), zo z - k < nX → (k ≤ zo z) → Wk pX l eX (rmK 4 0 0) sX mX argsX belowX methX cX (MQ belowX (QcG g (P_X5_mostLinesToDo S q w z)) argsX sX 0 0 (ge (gB g))) g 4 0 0 4 [(0, .ref (q 0)), (1, .int (iI (mxl z k))), (2, .int (iI (k : Int)))] [] S := by
    intro nX
    induction nX with
    | zero => intro k hm; exact absurd hm (Nat.not_lt_zero _)
    | succ nX ih4 =>
      intro k hm4 hk
      refine KRg (fun hR => ?_)
      have hmb := mxl_b hW k hk
      refine KIload_n C dX5_mostLinesToDo_4 rfl 2 rfl ?_
      refine KAload_n C dX5_mostLinesToDo_5 rfl 0 rfl ?_
      refine KGetR C ul_X5 rfl (by decide) 3 3 rfl (by decide) rfl u_fl_RX5_43 (hT.at0 0 6) (b := q 4) (hT.ptr 0 3 4) dX5_mostLinesToDo_6 (fun _ h => h) ?_
      refine KCallV (As := []) (b := q 4) (st := [.int (iI (k : Int))]) C (ct_Jx4a65c_size_8abf5 l g S (q 4) (w4 w) (k4 w) (zo z) hBk.1) u_ml_RX5_106 u_im_yJx4a65c_size_8abf5 u_se_yJx4a65c_size_8abf5 u_in_RJx4a65c u_co_yJx4a65c_size_8abf5 hd_yJx4a65c_size_8abf5 (hT.at0 4 0) (by decide) rfl rfl ⟨Nat.le_of_ble_eq_true rfl, Nat.le_of_ble_eq_true rfl⟩ ⟨Nat.le_of_ble_eq_true rfl, Nat.le_of_ble_eq_true rfl⟩ (Nat.le_of_ble_eq_true rfl) dX5_mostLinesToDo_9 rfl (fun v9 u9 hp9 => ?_)
      obtain ⟨rfl, rfl⟩ := hp9
      refine KSt (st2 := [.int (iI ((zo z) : Int)), .int (iI (k : Int))]) rfl ?_
      refine KIcmp_ge (tgt := 50) C dX5_mostLinesToDo_12 (by decide) ⟨by omega, by omega⟩ ⟨by omega, by omega⟩ (fun c12 => ?_) (fun c12 => ?_)
      · refine KIload_n C dX5_mostLinesToDo_50 rfl 1 rfl ?_
        refine KIret C rfl rfl (by
          exact ⟨by rw [show zo z = k by omega], rfl⟩) (by decide) (by decide) dX5_mostLinesToDo_51
      · refine KAload_n C dX5_mostLinesToDo_15 rfl 0 rfl ?_
        refine KGetR C ul_X5 rfl (by decide) 3 3 rfl (by decide) rfl u_fl_RX5_43 (hT.at0 0 6) (b := q 4) (hT.ptr 0 3 4) dX5_mostLinesToDo_16 (fun _ h => h) ?_
        refine KIload_n C dX5_mostLinesToDo_19 rfl 2 rfl ?_
        refine KCallV (As := [.int (iI (k : Int))]) (b := q 4) (st := []) C (ct_Jx4a65c_get_915e3 l g S (q 4) (w4 w) (k4 w) (zo z) hBk.1 k (wo w k) (by omega) ((hBk.2.1 k (by omega)).1)) u_ml_RX5_165 u_im_yJx4a65c_get_915e3 u_se_yJx4a65c_get_915e3 u_in_RJx4a65c u_co_yJx4a65c_get_915e3 hd_yJx4a65c_get_915e3 (hT.at0 4 0) (by decide) rfl rfl ⟨Nat.le_of_ble_eq_true rfl, Nat.le_of_ble_eq_true rfl⟩ ⟨Nat.le_of_ble_eq_true rfl, Nat.le_of_ble_eq_true rfl⟩ (Nat.le_of_ble_eq_true rfl) dX5_mostLinesToDo_20 rfl (fun v20 u20 hp20 => ?_)
        obtain ⟨rfl, rfl⟩ := hp20
        refine KSt (st2 := [.ref (wo w k)]) rfl ?_
        refine KCast C u_cl_RX5_111 (hBk.2.1 k (by omega)).2.1 (by decide) rfl rfl dX5_mostLinesToDo_23 ?_
        refine KAstore_n (lv' := [(3, .ref (wo w k)), (0, .ref (q 0)), (1, .int (iI (mxl z k))), (2, .int (iI (k : Int)))]) C dX5_mostLinesToDo_26 rfl (by decide) rfl ?_
        refine KAload_n C dX5_mostLinesToDo_27 rfl 0 rfl ?_
        refine KGetIN C ul_X1 rfl (by decide) 3 3 rfl (by decide) rfl n_fn_RX5_144 (hBk.2.1 k (by omega)).2.1 (v := zst z (k : Int)) (hOr k (by omega)).2.2.1 dX5_mostLinesToDo_28 (fun _ h => h) ?_
        have rb1 := hR.b (wo w k) 3 (v := zst z (k : Int)) (hOr k (by omega)).2.2.1
        refine KIconst C dX5_mostLinesToDo_31 ?_
        refine KIcmp_eq (tgt := 44) C dX5_mostLinesToDo_32 (by decide) ⟨by omega, by omega⟩ ⟨by omega, by omega⟩ (fun c32 => ?_) (fun c32 => ?_)
        · refine KLvE (lv2 := [(3, .ref (wo w k)), (0, .ref (q 0)), (1, .int (iI (mxl z (k + 1)))), (2, .int (iI (k : Int)))]) (congrArg (fun zz : Int => ([(3, .ref (wo w k)), (0, .ref (q 0)), (1, .int (iI zz)), (2, .int (iI (k : Int)))] : List (Nat × Value))) (show (mxl z k : Int) = mxl z (k + 1) from (mxl_t c32))) ?_
          refine KIinc (v := ((k + 1 : Nat) : Int)) (lv' := [(2, .int (iI ((k + 1 : Nat) : Int))), (3, .ref (wo w k)), (0, .ref (q 0)), (1, .int (iI (mxl z (k + 1))))]) C dX5_mostLinesToDo_44 3 rfl (by omega) (by decide) rfl ?_
          refine KGoto (tgt := 4) C dX5_mostLinesToDo_47 (by decide) ?_
          refine KLv (lv' := [(0, .ref (q 0)), (1, .int (iI (mxl z (k + 1)))), (2, .int (iI ((k + 1 : Nat) : Int)))]) [2, 3, 0] rfl ?_
          exact ih4 (k + 1) (by omega) (by omega)
        · refine KIload_n C dX5_mostLinesToDo_35 rfl 2 rfl ?_
          refine KAload_n C dX5_mostLinesToDo_36 rfl 0 rfl ?_
          refine KCallV (As := []) (b := (wo w k)) (st := [.int (iI (mxl z k))]) C (ct_X1_countLines l g S (wo w k) ((hBk.2.1 k (by omega)).2.1) (zW z k) ((hOr k (by omega)).2.1) (zW_lt hW.wl (by omega))) u_ml_RX5_141 u_im_yX1_countLines u_se_yX1_countLines u_in_RX1 u_co_yX1_countLines hd_yX1_countLines (hBk.2.1 k (by omega)).2.1 (by decide) rfl rfl ⟨Nat.le_of_ble_eq_true rfl, Nat.le_of_ble_eq_true rfl⟩ ⟨Nat.le_of_ble_eq_true rfl, Nat.le_of_ble_eq_true rfl⟩ (Nat.le_of_ble_eq_true rfl) dX5_mostLinesToDo_37 rfl (fun v37 u37 hp37 => ?_)
          obtain ⟨rfl, rfl⟩ := hp37
          refine KSt (st2 := [.int (iI ((cntb (zW z k) 20 : Nat) : Int)), .int (iI (mxl z k))]) rfl ?_
          refine KTop (congrArg iI (show ((cntb (zW z k) 20 : Nat) : Int) = zmn z (k : Int) from (hW.mn (by omega)))) ?_
          have hmk := (hW.2.2.2.2.1 k (by omega)).1
          refine KMmax (z := maxI (mxl z k) (zmn z (k : Int))) C ⟨by omega, by omega⟩ ⟨by omega, by omega⟩ rfl u_ml_RX5_235 u_st_yJ9_max_7cf53 u_in_RJ9 u_co_yJ9_max_7cf53 ⟨Nat.le_of_ble_eq_true rfl, Nat.le_of_ble_eq_true rfl⟩ ⟨Nat.le_of_ble_eq_true rfl, Nat.le_of_ble_eq_true rfl⟩ dX5_mostLinesToDo_40 ?_
          have mb2 := maxI_b (mxl z k) (zmn z (k : Int))
          refine KTop (congrArg iI (show maxI (mxl z k) (zmn z (k : Int)) = mxl z (k + 1) from (mxl_f c32))) ?_
          refine KIstore_n (lv' := [(1, .int (iI (mxl z (k + 1)))), (3, .ref (wo w k)), (0, .ref (q 0)), (2, .int (iI (k : Int)))]) C dX5_mostLinesToDo_43 rfl (by decide) rfl ?_
          refine KIinc (v := ((k + 1 : Nat) : Int)) (lv' := [(2, .int (iI ((k + 1 : Nat) : Int))), (1, .int (iI (mxl z (k + 1)))), (3, .ref (wo w k)), (0, .ref (q 0))]) C dX5_mostLinesToDo_44 3 rfl (by omega) (by decide) rfl ?_
          refine KGoto (tgt := 4) C dX5_mostLinesToDo_47 (by decide) ?_
          refine KLv (lv' := [(0, .ref (q 0)), (1, .int (iI (mxl z (k + 1)))), (2, .int (iI ((k + 1 : Nat) : Int)))]) [3, 1, 0] rfl ?_
          exact ih4 (k + 1) (by omega) (by omega)
  exact loop4 _ 0 (Nat.lt_succ_self _) (by omega)
def P_X5_takesAnyOrder (S : Sto) (q : Nat → Nat) (x : Int) (w : Shp) (z : Sig) : Option Value → Sto → Prop := fun v u => ((∃ o : Nat, o < zo z ∧ isT z x o) ∧ v = some (.int (iI 1)) ∨ ¬(∃ o : Nat, o < zo z ∧ isT z x o) ∧ v = some (.int (iI 0))) ∧ S = u
set_option maxRecDepth 100000 in
set_option maxHeartbeats 4000000 in
theorem ct_X5_takesAnyOrder (l : Launch) (g : GG) (S : Sto) (q : Nat → Nat) (x : Int) (w : Shp) (z : Sig) (hT : Top S q) (hW : Wf z) (hBk : Bok S q (gT g) w (zo z)) (hOr : OrV S w z (zo z)) (hx : inR x) : MetS l g yX5_takesAnyOrder cX5_takesAnyOrder 3 (some FieldType.boolean) 4 0 0 [.ref (q 0), .int (iI x)] S (P_X5_takesAnyOrder S q x w z) := by
  refine MetS.of (own := RX5) (lv := [(0, .ref (q 0)), (1, .int (iI x))]) (by decide) rfl (Nat.le_of_ble_eq_true rfl) rfl ?_
  intro pX eX sX mX argsX belowX methX cX C hin
  refine KRg (fun hR => ?_)
  have hn4 := hBk.1.2.2.2.1
  have hn40 := hBk.1.2.2.2.2.1
  obtain ⟨hx1, hx2⟩ := hx
  refine KIconst C dX5_takesAnyOrder_0 ?_
  refine KIstore_n (lv' := [(2, .int (iI 0)), (0, .ref (q 0)), (1, .int (iI x))]) C dX5_takesAnyOrder_1 rfl (by decide) rfl ?_
  refine KLv (lv' := [(0, .ref (q 0)), (1, .int (iI x)), (2, .int (iI 0))]) [1, 2, 0] rfl ?_
  have loop2 : ∀ (nX : Nat) (k : Nat), zo z - k < nX → (k ≤ zo z) → (∀ o : Nat, o < k → ¬ isT z x o) → Wk pX l eX (rmK 4 0 0) sX mX argsX belowX methX cX (MQ belowX (QcG g (P_X5_takesAnyOrder S q x w z)) argsX sX 0 0 (ge (gB g))) g 3 0 0 2 [(0, .ref (q 0)), (1, .int (iI x)), (2, .int (iI (k : Int)))] [] S := by
    intro nX
    induction nX with
    | zero => intro k hm; exact absurd hm (Nat.not_lt_zero _)
    | succ nX ih2 =>
      intro k hm2 hk hno
      refine KRg (fun hR => ?_)
      refine KIload_n C dX5_takesAnyOrder_2 rfl 2 rfl ?_
      refine KAload_n C dX5_takesAnyOrder_3 rfl 0 rfl ?_
      refine KGetR C ul_X5 rfl (by decide) 3 3 rfl (by decide) rfl u_fl_RX5_43 (hT.at0 0 6) (b := q 4) (hT.ptr 0 3 4) dX5_takesAnyOrder_4 (fun _ h => h) ?_
      refine KCallV (As := []) (b := q 4) (st := [.int (iI (k : Int))]) C (ct_Jx4a65c_size_8abf5 l g S (q 4) (w4 w) (k4 w) (zo z) hBk.1) u_ml_RX5_106 u_im_yJx4a65c_size_8abf5 u_se_yJx4a65c_size_8abf5 u_in_RJx4a65c u_co_yJx4a65c_size_8abf5 hd_yJx4a65c_size_8abf5 (hT.at0 4 0) (by decide) rfl rfl ⟨Nat.le_of_ble_eq_true rfl, Nat.le_of_ble_eq_true rfl⟩ ⟨Nat.le_of_ble_eq_true rfl, Nat.le_of_ble_eq_true rfl⟩ (Nat.le_of_ble_eq_true rfl) dX5_takesAnyOrder_7 rfl (fun v7 u7 hp7 => ?_)
      obtain ⟨rfl, rfl⟩ := hp7
      refine KSt (st2 := [.int (iI ((zo z) : Int)), .int (iI (k : Int))]) rfl ?_
      refine KIcmp_ge (tgt := 39) C dX5_takesAnyOrder_10 (by decide) ⟨by omega, by omega⟩ ⟨by omega, by omega⟩ (fun c10 => ?_) (fun c10 => ?_)
      · refine KIconst C dX5_takesAnyOrder_39 ?_
        refine KIret C rfl rfl (by
          exact ⟨Or.inr ⟨fun ⟨o, h1, h2⟩ => hno o (by omega) h2, rfl⟩, rfl⟩) (by decide) (by decide) dX5_takesAnyOrder_40
      · refine KAload_n C dX5_takesAnyOrder_13 rfl 0 rfl ?_
        refine KGetR C ul_X5 rfl (by decide) 3 3 rfl (by decide) rfl u_fl_RX5_43 (hT.at0 0 6) (b := q 4) (hT.ptr 0 3 4) dX5_takesAnyOrder_14 (fun _ h => h) ?_
        refine KIload_n C dX5_takesAnyOrder_17 rfl 2 rfl ?_
        refine KCallV (As := [.int (iI (k : Int))]) (b := q 4) (st := []) C (ct_Jx4a65c_get_915e3 l g S (q 4) (w4 w) (k4 w) (zo z) hBk.1 k (wo w k) (by omega) ((hBk.2.1 k (by omega)).1)) u_ml_RX5_165 u_im_yJx4a65c_get_915e3 u_se_yJx4a65c_get_915e3 u_in_RJx4a65c u_co_yJx4a65c_get_915e3 hd_yJx4a65c_get_915e3 (hT.at0 4 0) (by decide) rfl rfl ⟨Nat.le_of_ble_eq_true rfl, Nat.le_of_ble_eq_true rfl⟩ ⟨Nat.le_of_ble_eq_true rfl, Nat.le_of_ble_eq_true rfl⟩ (Nat.le_of_ble_eq_true rfl) dX5_takesAnyOrder_18 rfl (fun v18 u18 hp18 => ?_)
        obtain ⟨rfl, rfl⟩ := hp18
        refine KSt (st2 := [.ref (wo w k)]) rfl ?_
        refine KCast C u_cl_RX5_111 (hBk.2.1 k (by omega)).2.1 (by decide) rfl rfl dX5_takesAnyOrder_21 ?_
        refine KIload_n C dX5_takesAnyOrder_24 rfl 1 rfl ?_
        refine KCallV (As := [.int (iI x)]) (b := (wo w k)) (st := []) C (ct_X1_isTakenAt l g S (wo w k) ((hBk.2.1 k (by omega)).2.1) x (⟨by omega, by omega⟩)) u_ml_RX5_169 u_im_yX1_isTakenAt u_se_yX1_isTakenAt u_in_RX1 u_co_yX1_isTakenAt hd_yX1_isTakenAt (hBk.2.1 k (by omega)).2.1 (by decide) rfl rfl ⟨Nat.le_of_ble_eq_true rfl, Nat.le_of_ble_eq_true rfl⟩ ⟨Nat.le_of_ble_eq_true rfl, Nat.le_of_ble_eq_true rfl⟩ (Nat.le_of_ble_eq_true rfl) dX5_takesAnyOrder_25 rfl (fun v25 u25 hp25 => ?_)
        obtain ⟨⟨b25, rfl⟩ | ⟨b25, rfl⟩, rfl⟩ := hp25
        · refine KSt (st2 := [.int (iI 1)]) rfl ?_
          have hik : isT z x k := (isT_iff hW hOr (Nat.le_refl _) (by omega)).mp b25
          refine KIf_eq (tgt := 33) C dX5_takesAnyOrder_28 (by decide) ⟨by omega, by omega⟩ (fun h => absurd h (by decide)) (fun _ => ?_)
          refine KIconst C dX5_takesAnyOrder_31 ?_
          refine KIret C rfl rfl (by
            exact ⟨Or.inl ⟨⟨k, by omega, hik⟩, rfl⟩, rfl⟩) (by decide) (by decide) dX5_takesAnyOrder_32
        · refine KSt (st2 := [.int (iI 0)]) rfl ?_
          have hik : ¬ isT z x k := fun h9 => b25 ((isT_iff hW hOr (Nat.le_refl _) (by omega)).mpr h9)
          refine KIf_eq (tgt := 33) C dX5_takesAnyOrder_28 (by decide) ⟨by omega, by omega⟩ (fun _ => ?_) (fun h => absurd h (by decide))
          refine KIinc (v := ((k + 1 : Nat) : Int)) (lv' := [(2, .int (iI ((k + 1 : Nat) : Int))), (0, .ref (q 0)), (1, .int (iI x))]) C dX5_takesAnyOrder_33 2 rfl (by omega) (by decide) rfl ?_
          refine KGoto (tgt := 2) C dX5_takesAnyOrder_36 (by decide) ?_
          refine KLv (lv' := [(0, .ref (q 0)), (1, .int (iI x)), (2, .int (iI ((k + 1 : Nat) : Int)))]) [1, 2, 0] rfl ?_
          exact ih2 (k + 1) (by omega) (by omega) (fun o h => if e9 : o = k then e9 ▸ hik else hno o (by omega))
  exact loop2 _ 0 (Nat.lt_succ_self _) (by omega) (fun o h => absurd h (Nat.not_lt_zero _))
def P_X3_addTurnover (S : Sto) (q : Nat → Nat) (a : Nat) (b : Nat) : Option Value → Sto → Prop := fun v u => v = none ∧ u = wI S (row1 (sI S) (q 7) (adR (sI S (q 7)) (sI S b) 20))
set_option maxRecDepth 100000 in
set_option maxHeartbeats 4000000 in
theorem ct_X3_addTurnover (l : Launch) (g : GG) (S : Sto) (q : Nat → Nat) (a : Nat) (b : Nat) (hT : Top S q) (ha : At0 S a 2) (hab : sP S a 1 = some b) (hb : At0 S b 20 ∧ sN S b = 20) (hbq : b ≠ q 7) (hF : ∀ p : Nat, p < 20 → (0 ≤ sI S (q 7) (p : Int) ∧ sI S (q 7) (p : Int) ≤ 20000) ∧ 0 ≤ sI S b (p : Int) ∧ sI S b (p : Int) ≤ 495) : MetS l g yX3_addTurnover cX3_addTurnover 3 (none) 1 0 0 [.ref (q 1), .ref a] S (P_X3_addTurnover S q a b) := by
  refine MetS.of (own := RX3) (lv := [(0, .ref (q 1)), (1, .ref a)]) (by decide) rfl (Nat.le_of_ble_eq_true rfl) rfl ?_
  intro pX eX sX mX argsX belowX methX cX C hin
  refine KRg (fun hR => ?_)
  refine KIconst C dX3_addTurnover_0 ?_
  refine KIstore_n (lv' := [(2, .int (iI 0)), (0, .ref (q 1)), (1, .ref a)]) C dX3_addTurnover_1 rfl (by decide) rfl ?_
  refine KSto (S2 := wI S (row1 (sI S) (q 7) (adR (sI S (q 7)) (sI S b) 0))) (by rw [adR_0, row1_self]) ?_
  refine KLv (lv' := [(0, .ref (q 1)), (1, .ref a), (2, .int (iI 0))]) [1, 2, 0] rfl ?_
  have loop2 : ∀ (nX : Nat) (k : Nat), 20 - k < nX → (k ≤ 20) → Wk pX l eX (rmK 1 0 0) sX mX argsX belowX methX cX (MQ belowX (QcG g (P_X3_addTurnover S q a b)) argsX sX 0 0 (ge (gB g))) g 3 0 0 2 [(0, .ref (q 1)), (1, .ref a), (2, .int (iI (k : Int)))] [] (wI S (row1 (sI S) (q 7) (adR (sI S (q 7)) (sI S b) k))) := by
    intro nX
    induction nX with
    | zero => intro k hm; exact absurd hm (Nat.not_lt_zero _)
    | succ nX ih2 =>
      intro k hm2 hk
      refine KRg (fun hR => ?_)
      refine KIload_n C dX3_addTurnover_2 rfl 2 rfl ?_
      refine KBipush C dX3_addTurnover_3 (by decide) ?_
      refine KIcmp_ge (tgt := 29) C dX3_addTurnover_5 (by decide) ⟨by omega, by omega⟩ ⟨by omega, by omega⟩ (fun c5 => ?_) (fun c5 => ?_)
      · refine KVret C rfl (by
          exact ⟨rfl, by rw [show (20 : Nat) = k by omega]⟩) (by decide) (by decide) dX3_addTurnover_29
      · refine KAload_n C dX3_addTurnover_8 rfl 0 rfl ?_
        refine KGetR (S := wI S (row1 (sI S) (q 7) (adR (sI S (q 7)) (sI S b) k))) C ul_X3 rfl (by decide) 4 4 rfl (by decide) rfl u_fl_RX3_15 (hT.at0 1 4) (b := q 7) (hT.ptr 1 4 7) dX3_addTurnover_9 (fun _ h => h) ?_
        refine KIload_n C dX3_addTurnover_12 rfl 2 rfl ?_
        refine KDup2 C dX3_addTurnover_13 rfl rfl ?_
        refine KIald (S := wI S (row1 (sI S) (q 7) (adR (sI S (q 7)) (sI S b) k)))  (v := sI S (q 7) (k : Int)) C 20 (hT.at0 7 20) (hT.ln0 7 20) ⟨by omega, by omega⟩ (by omega) ((row1_same _ _ _ _).trans (adR_at _ _ _)) dX3_addTurnover_14 ?_
        have hFk := hF k (by omega)
        refine KAload_n C dX3_addTurnover_15 rfl 1 rfl ?_
        refine KGetRN (S := wI S (row1 (sI S) (q 7) (adR (sI S (q 7)) (sI S b) k))) C ul_X1 rfl (by decide) 1 1 rfl (by decide) rfl n_fn_RX3_48 ha (b := b) hab dX3_addTurnover_16 (fun _ h => h) ?_
        refine KIload_n C dX3_addTurnover_19 rfl 2 rfl ?_
        refine KIald (S := wI S (row1 (sI S) (q 7) (adR (sI S (q 7)) (sI S b) k)))  (v := sI S b (k : Int)) C 20 hb.1 hb.2 ⟨by omega, by omega⟩ (by omega) (row1_ne _ _ _ hbq) dX3_addTurnover_20 ?_
        refine KIadd C dX3_addTurnover_21 ?_
        refine KIast (S := wI S (row1 (sI S) (q 7) (adR (sI S (q 7)) (sI S b) k))) C 20 (hT.at0 7 20) (hT.ln0 7 20) ⟨by omega, by omega⟩ (by omega) ⟨by omega, by omega⟩ dX3_addTurnover_22 ?_
        refine KSto (S2 := wI S (row1 (sI S) (q 7) (adR (sI S (q 7)) (sI S b) (k + 1)))) (congrArg (wI S) ((up2_row1 _ _ _ _ _).trans (congrArg _ (adR_step _ _ _)))) ?_
        refine KIinc (v := ((k + 1 : Nat) : Int)) (lv' := [(2, .int (iI ((k + 1 : Nat) : Int))), (0, .ref (q 1)), (1, .ref a)]) C dX3_addTurnover_23 2 rfl (by omega) (by decide) rfl ?_
        refine KGoto (tgt := 2) C dX3_addTurnover_26 (by decide) ?_
        refine KLv (lv' := [(0, .ref (q 1)), (1, .ref a), (2, .int (iI ((k + 1 : Nat) : Int)))]) [1, 2, 0] rfl ?_
        exact ih2 (k + 1) (by omega) (by omega)
  exact loop2 _ 0 (Nat.lt_succ_self _) (by omega)
