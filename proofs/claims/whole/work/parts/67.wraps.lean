/-! ===== the law's own methods ===== -/
theorem u_cw_put : (.codeWith yL_put cL_put 6 (some .int) [(0, 12, 15, 13), (0, 12, 19, 15)] : Cond) ∈ UW := uw 239 (by decide +kernel) (by decide +kernel)
theorem ct_L_put (l : Launch) (g : GG) (hnt : l.stackTraces = false) (S : Sto) (q : Nat → Nat) (x0 : Int) (x1 : Int) (x2 : Int) (z : Sig) (hT : Top S q) (hW : Wf z) (hCR : CR S q (gT g) z) (hx0 : inR x0) (hx1 : inR x1) (hx2 : inR x2) (tt : Nat) (htt : tt = gT g) : MetH l g yL_put cL_put 6 (some .int) [(0, 12, 15, 13), (0, 12, 19, 15)] 8 3 18 [.ref (q 0), .int (iI x0), .int (iI x1), .int (iI x2), .ref (q 93)] S (PL (oPut z x0 x1 x2) S q tt) := by
  refine MetH.of (own := RL) (lv := [(0, .ref (q 0)), (1, .int (iI x0)), (2, .int (iI x1)), (3, .int (iI x2)), (4, .ref (q 93))]) (by decide) rfl (Nat.le_of_ble_eq_true rfl) rfl ?_
  intro pX eX sX mX argsX belowX methX cX C hnc htab
  refine KAload C dL_put_0 4 rfl ?_
  refine KIconst C dL_put_2 ?_
  refine KAload_n C dL_put_3 rfl 0 rfl ?_
  refine KIload_n C dL_put_4 rfl 1 rfl ?_
  refine KIload_n C dL_put_5 rfl 2 rfl ?_
  refine KIload_n C dL_put_6 rfl 3 rfl ?_
  refine KCallVC (As := [.int (iI x0), .int (iI x1), .int (iI x2)]) (b := q 0) (st := [.int (iI 0), .ref (q 93)]) C (ct_X5_put l g hnt S q x0 x1 x2 z hT hW hCR hx0 hx1 hx2 tt htt) u_ml_RL_7 u_im_yX5_put u_se_yX5_put u_in_RX5 u_co_yX5_put hd_yX5_put (hT.at0 0 6) (by decide) rfl rfl ⟨Nat.le_of_ble_eq_true rfl, Nat.le_of_ble_eq_true rfl⟩ ⟨Nat.le_of_ble_eq_true rfl, Nat.le_of_ble_eq_true rfl⟩ (Nat.le_of_ble_eq_true rfl) dL_put_7 rfl (fun E7 u7 hx7 => ?_) (fun v7 u7 hp7 => ?_)
  · obtain ⟨hc, hcp⟩ := hx7
    rcases hc with ⟨e1, rfl⟩ | ⟨e1, rfl⟩
    · refine ⟨15, hnd0 htab (by decide) (by decide) (C.words _ u_cl_RL_13) (va_Nw.use rfl (C.nws.1 _ n_ca_java_lang_IndexOutOfBoundsException_java_lang_IndexOutOfBoundsException)), fun qx => ?_⟩
      refine KAstore C dL_put_15 (by decide) rfl ?_
      refine KIconst C dL_put_17 ?_
      exact KH (KIret C rfl rfl (PL.thr e1 ⟨by decide, ⟨by omega, by omega⟩⟩ hcp) (by decide) (by decide) dL_put_18)
    · refine ⟨19, hnd1 htab (by decide) (by decide) (by decide) (C.words _ u_cl_RL_13) hnc.1 (C.words _ u_cl_RL_15) (va_Nw.use rfl (C.nws.1 _ n_ca_java_lang_IllegalStateException_java_lang_IllegalStateException)), fun qx => ?_⟩
      refine KAstore C dL_put_19 (by decide) rfl ?_
      refine KIconst C dL_put_21 ?_
      exact KH (KIret C rfl rfl (PL.thr e1 ⟨by decide, ⟨by omega, by omega⟩⟩ hcp) (by decide) (by decide) dL_put_22)
  · obtain ⟨r, z9, e1, rfl, hcp⟩ := hp7
    refine KSt (st2 := [.int (iI r), .int (iI 0), .ref (q 93)]) rfl ?_
    refine KTop (iI_of (iI r)).symm ?_
    refine KI2l C dL_put_10 (inR_of _) ?_
    refine KLast (S := u7) C 1 (hcp.2.1.at0 93 23) (hcp.2.1.ln0 93 1) ⟨by decide, by decide⟩ (by decide) dL_put_11 ?_
    refine KGoto C dL_put_12 rfl ?_
    refine KIconst C dL_put_23 ?_
    exact KH (KIret C rfl rfl (PL.ok e1 hcp) (by decide) (by decide) dL_put_24)
theorem u_cw_layOut : (.codeWith yL_layOut cL_layOut 3 (some .int) [(0, 8, 11, 15)] : Cond) ∈ UW := uw 360 (by decide +kernel) (by decide +kernel)
theorem ct_L_layOut (l : Launch) (g : GG) (hnt : l.stackTraces = false) (S : Sto) (q : Nat → Nat) (z : Sig) (hT : Top S q) (hW : Wf z) (hCR : CR S q (gT g) z) (tt : Nat) (htt : tt = gT g) : MetH l g yL_layOut cL_layOut 3 (some .int) [(0, 8, 11, 15)] 8 1 6 [.ref (q 0), .ref (q 93)] S (PL (oLay z) S q tt) := by
  refine MetH.of (own := RL) (lv := [(0, .ref (q 0)), (1, .ref (q 93))]) (by decide) rfl (Nat.le_of_ble_eq_true rfl) rfl ?_
  intro pX eX sX mX argsX belowX methX cX C hnc htab
  refine KAload_n C dL_layOut_0 rfl 1 rfl ?_
  refine KIconst C dL_layOut_1 ?_
  refine KAload_n C dL_layOut_2 rfl 0 rfl ?_
  refine KCallVC (As := []) (b := q 0) (st := [.int (iI 0), .ref (q 93)]) C (ct_X5_layOut l g hnt S q z hT hW hCR tt htt) u_ml_RL_17 u_im_yX5_layOut u_se_yX5_layOut u_in_RX5 u_co_yX5_layOut hd_yX5_layOut (hT.at0 0 6) (by decide) rfl rfl ⟨Nat.le_of_ble_eq_true rfl, Nat.le_of_ble_eq_true rfl⟩ ⟨Nat.le_of_ble_eq_true rfl, Nat.le_of_ble_eq_true rfl⟩ (Nat.le_of_ble_eq_true rfl) dL_layOut_3 rfl (fun E7 u7 hx7 => ?_) (fun v7 u7 hp7 => ?_)
  · obtain ⟨hc, hcp⟩ := hx7
    obtain ⟨e1, rfl⟩ := hc
    refine ⟨11, hnd0 htab (by decide) (by decide) (C.words _ u_cl_RL_15) (va_Nw.use rfl (C.nws.1 _ n_ca_java_lang_IllegalStateException_java_lang_IllegalStateException)), fun qx => ?_⟩
    refine KAstore_n C dL_layOut_11 rfl (by decide) rfl ?_
    refine KIconst C dL_layOut_12 ?_
    exact KH (KIret C rfl rfl (PL.thr e1 ⟨by decide, ⟨by omega, by omega⟩⟩ hcp) (by decide) (by decide) dL_layOut_13)
  · obtain ⟨r, z9, e1, rfl, hcp⟩ := hp7
    refine KSt (st2 := [.int (iI r), .int (iI 0), .ref (q 93)]) rfl ?_
    refine KTop (iI_of (iI r)).symm ?_
    refine KI2l C dL_layOut_6 (inR_of _) ?_
    refine KLast (S := u7) C 1 (hcp.2.1.at0 93 23) (hcp.2.1.ln0 93 1) ⟨by decide, by decide⟩ (by decide) dL_layOut_7 ?_
    refine KGoto C dL_layOut_8 rfl ?_
    refine KIconst C dL_layOut_14 ?_
    exact KH (KIret C rfl rfl (PL.ok e1 hcp) (by decide) (by decide) dL_layOut_15)
theorem u_cw_placeOf : (.codeWith yL_placeOf cL_placeOf 4 (some .int) [(0, 9, 12, 13)] : Cond) ∈ UW := uw 397 (by decide +kernel) (by decide +kernel)
theorem ct_L_placeOf (l : Launch) (g : GG) (hnt : l.stackTraces = false) (S : Sto) (q : Nat → Nat) (x0 : Int) (z : Sig) (hT : Top S q) (hW : Wf z) (hCR : CR S q (gT g) z) (hx0 : inR x0) (tt : Nat) (htt : tt = gT g) : MetH l g yL_placeOf cL_placeOf 4 (some .int) [(0, 9, 12, 13)] 8 1 6 [.ref (q 0), .int (iI x0), .ref (q 93)] S (PL (oPl z x0) S q tt) := by
  refine MetH.of (own := RL) (lv := [(0, .ref (q 0)), (1, .int (iI x0)), (2, .ref (q 93))]) (by decide) rfl (Nat.le_of_ble_eq_true rfl) rfl ?_
  intro pX eX sX mX argsX belowX methX cX C hnc htab
  refine KAload_n C dL_placeOf_0 rfl 2 rfl ?_
  refine KIconst C dL_placeOf_1 ?_
  refine KAload_n C dL_placeOf_2 rfl 0 rfl ?_
  refine KIload_n C dL_placeOf_3 rfl 1 rfl ?_
  refine KCallVC (As := [.int (iI x0)]) (b := q 0) (st := [.int (iI 0), .ref (q 93)]) C (ct_X5_placeOf l g hnt S q x0 z hT hW hCR hx0 tt htt) u_ml_RL_21 u_im_yX5_placeOf u_se_yX5_placeOf u_in_RX5 u_co_yX5_placeOf hd_yX5_placeOf (hT.at0 0 6) (by decide) rfl rfl ⟨Nat.le_of_ble_eq_true rfl, Nat.le_of_ble_eq_true rfl⟩ ⟨Nat.le_of_ble_eq_true rfl, Nat.le_of_ble_eq_true rfl⟩ (Nat.le_of_ble_eq_true rfl) dL_placeOf_4 rfl (fun E7 u7 hx7 => ?_) (fun v7 u7 hp7 => ?_)
  · obtain ⟨hc, hcp⟩ := hx7
    obtain ⟨e1, rfl⟩ := hc
    refine ⟨12, hnd0 htab (by decide) (by decide) (C.words _ u_cl_RL_13) (va_Nw.use rfl (C.nws.1 _ n_ca_java_lang_IndexOutOfBoundsException_java_lang_IndexOutOfBoundsException)), fun qx => ?_⟩
    refine KAstore_n C dL_placeOf_12 rfl (by decide) rfl ?_
    refine KIconst C dL_placeOf_13 ?_
    exact KH (KIret C rfl rfl (PL.thr e1 ⟨by decide, ⟨by omega, by omega⟩⟩ hcp) (by decide) (by decide) dL_placeOf_14)
  · obtain ⟨r, z9, e1, rfl, hcp⟩ := hp7
    refine KSt (st2 := [.int (iI r), .int (iI 0), .ref (q 93)]) rfl ?_
    refine KTop (iI_of (iI r)).symm ?_
    refine KI2l C dL_placeOf_7 (inR_of _) ?_
    refine KLast (S := u7) C 1 (hcp.2.1.at0 93 23) (hcp.2.1.ln0 93 1) ⟨by decide, by decide⟩ (by decide) dL_placeOf_8 ?_
    refine KGoto C dL_placeOf_9 rfl ?_
    refine KIconst C dL_placeOf_15 ?_
    exact KH (KIret C rfl rfl (PL.ok e1 hcp) (by decide) (by decide) dL_placeOf_16)
theorem u_cw_turnover : (.codeWith yL_turnover cL_turnover 4 (some .int) [(0, 9, 12, 13)] : Cond) ∈ UW := uw 404 (by decide +kernel) (by decide +kernel)
theorem ct_L_turnover (l : Launch) (g : GG) (hnt : l.stackTraces = false) (S : Sto) (q : Nat → Nat) (x0 : Int) (z : Sig) (hT : Top S q) (hW : Wf z) (hCR : CR S q (gT g) z) (hx0 : inR x0) (tt : Nat) (htt : tt = gT g) : MetH l g yL_turnover cL_turnover 4 (some .int) [(0, 9, 12, 13)] 8 1 6 [.ref (q 0), .int (iI x0), .ref (q 93)] S (PL (oTv z x0) S q tt) := by
  refine MetH.of (own := RL) (lv := [(0, .ref (q 0)), (1, .int (iI x0)), (2, .ref (q 93))]) (by decide) rfl (Nat.le_of_ble_eq_true rfl) rfl ?_
  intro pX eX sX mX argsX belowX methX cX C hnc htab
  refine KAload_n C dL_turnover_0 rfl 2 rfl ?_
  refine KIconst C dL_turnover_1 ?_
  refine KAload_n C dL_turnover_2 rfl 0 rfl ?_
  refine KIload_n C dL_turnover_3 rfl 1 rfl ?_
  refine KCallVC (As := [.int (iI x0)]) (b := q 0) (st := [.int (iI 0), .ref (q 93)]) C (ct_X5_turnover l g hnt S q x0 z hT hW hCR hx0 tt htt) u_ml_RL_25 u_im_yX5_turnover u_se_yX5_turnover u_in_RX5 u_co_yX5_turnover hd_yX5_turnover (hT.at0 0 6) (by decide) rfl rfl ⟨Nat.le_of_ble_eq_true rfl, Nat.le_of_ble_eq_true rfl⟩ ⟨Nat.le_of_ble_eq_true rfl, Nat.le_of_ble_eq_true rfl⟩ (Nat.le_of_ble_eq_true rfl) dL_turnover_4 rfl (fun E7 u7 hx7 => ?_) (fun v7 u7 hp7 => ?_)
  · obtain ⟨hc, hcp⟩ := hx7
    obtain ⟨e1, rfl⟩ := hc
    refine ⟨12, hnd0 htab (by decide) (by decide) (C.words _ u_cl_RL_13) (va_Nw.use rfl (C.nws.1 _ n_ca_java_lang_IndexOutOfBoundsException_java_lang_IndexOutOfBoundsException)), fun qx => ?_⟩
    refine KAstore_n C dL_turnover_12 rfl (by decide) rfl ?_
    refine KIconst C dL_turnover_13 ?_
    exact KH (KIret C rfl rfl (PL.thr e1 ⟨by decide, ⟨by omega, by omega⟩⟩ hcp) (by decide) (by decide) dL_turnover_14)
  · obtain ⟨r, z9, e1, rfl, hcp⟩ := hp7
    refine KSt (st2 := [.int (iI r), .int (iI 0), .ref (q 93)]) rfl ?_
    refine KTop (iI_of (iI r)).symm ?_
    refine KI2l C dL_turnover_7 (inR_of _) ?_
    refine KLast (S := u7) C 1 (hcp.2.1.at0 93 23) (hcp.2.1.ln0 93 1) ⟨by decide, by decide⟩ (by decide) dL_turnover_8 ?_
    refine KGoto C dL_turnover_9 rfl ?_
    refine KIconst C dL_turnover_15 ?_
    exact KH (KIret C rfl rfl (PL.ok e1 hcp) (by decide) (by decide) dL_turnover_16)
theorem u_cw_distance : (.codeWith yL_distance cL_distance 5 (some .int) [(0, 10, 13, 13), (0, 10, 17, 15)] : Cond) ∈ UW := uw 411 (by decide +kernel) (by decide +kernel)
theorem ct_L_distance (l : Launch) (g : GG) (hnt : l.stackTraces = false) (S : Sto) (q : Nat → Nat) (x0 : Int) (x1 : Int) (z : Sig) (hT : Top S q) (hW : Wf z) (hCR : CR S q (gT g) z) (hx0 : inR x0) (hx1 : inR x1) (tt : Nat) (htt : tt = gT g) : MetH l g yL_distance cL_distance 5 (some .int) [(0, 10, 13, 13), (0, 10, 17, 15)] 8 3 18 [.ref (q 0), .int (iI x0), .int (iI x1), .ref (q 93)] S (PL (oDi z x0 x1) S q tt) := by
  refine MetH.of (own := RL) (lv := [(0, .ref (q 0)), (1, .int (iI x0)), (2, .int (iI x1)), (3, .ref (q 93))]) (by decide) rfl (Nat.le_of_ble_eq_true rfl) rfl ?_
  intro pX eX sX mX argsX belowX methX cX C hnc htab
  refine KAload_n C dL_distance_0 rfl 3 rfl ?_
  refine KIconst C dL_distance_1 ?_
  refine KAload_n C dL_distance_2 rfl 0 rfl ?_
  refine KIload_n C dL_distance_3 rfl 1 rfl ?_
  refine KIload_n C dL_distance_4 rfl 2 rfl ?_
  refine KCallVC (As := [.int (iI x0), .int (iI x1)]) (b := q 0) (st := [.int (iI 0), .ref (q 93)]) C (ct_X5_distance l g hnt S q x0 x1 z hT hW hCR hx0 hx1 tt htt) u_ml_RL_28 u_im_yX5_distance u_se_yX5_distance u_in_RX5 u_co_yX5_distance hd_yX5_distance (hT.at0 0 6) (by decide) rfl rfl ⟨Nat.le_of_ble_eq_true rfl, Nat.le_of_ble_eq_true rfl⟩ ⟨Nat.le_of_ble_eq_true rfl, Nat.le_of_ble_eq_true rfl⟩ (Nat.le_of_ble_eq_true rfl) dL_distance_5 rfl (fun E7 u7 hx7 => ?_) (fun v7 u7 hp7 => ?_)
  · obtain ⟨hc, hcp⟩ := hx7
    rcases hc with ⟨e1, rfl⟩ | ⟨e1, rfl⟩
    · refine ⟨13, hnd0 htab (by decide) (by decide) (C.words _ u_cl_RL_13) (va_Nw.use rfl (C.nws.1 _ n_ca_java_lang_IndexOutOfBoundsException_java_lang_IndexOutOfBoundsException)), fun qx => ?_⟩
      refine KAstore C dL_distance_13 (by decide) rfl ?_
      refine KIconst C dL_distance_15 ?_
      exact KH (KIret C rfl rfl (PL.thr e1 ⟨by decide, ⟨by omega, by omega⟩⟩ hcp) (by decide) (by decide) dL_distance_16)
    · refine ⟨17, hnd1 htab (by decide) (by decide) (by decide) (C.words _ u_cl_RL_13) hnc.1 (C.words _ u_cl_RL_15) (va_Nw.use rfl (C.nws.1 _ n_ca_java_lang_IllegalStateException_java_lang_IllegalStateException)), fun qx => ?_⟩
      refine KAstore C dL_distance_17 (by decide) rfl ?_
      refine KIconst C dL_distance_19 ?_
      exact KH (KIret C rfl rfl (PL.thr e1 ⟨by decide, ⟨by omega, by omega⟩⟩ hcp) (by decide) (by decide) dL_distance_20)
  · obtain ⟨r, z9, e1, rfl, hcp⟩ := hp7
    refine KSt (st2 := [.int (iI r), .int (iI 0), .ref (q 93)]) rfl ?_
    refine KTop (iI_of (iI r)).symm ?_
    refine KI2l C dL_distance_8 (inR_of _) ?_
    refine KLast (S := u7) C 1 (hcp.2.1.at0 93 23) (hcp.2.1.ln0 93 1) ⟨by decide, by decide⟩ (by decide) dL_distance_9 ?_
    refine KGoto C dL_distance_10 rfl ?_
    refine KIconst C dL_distance_21 ?_
    exact KH (KIret C rfl rfl (PL.ok e1 hcp) (by decide) (by decide) dL_distance_22)
theorem u_cw_order : (.codeWith yL_order cL_order 4 (some .int) [(0, 9, 12, 35), (0, 9, 15, 15)] : Cond) ∈ UW := uw 420 (by decide +kernel) (by decide +kernel)
theorem ct_L_order (l : Launch) (g : GG) (hnt : l.stackTraces = false) (S : Sto) (q : Nat → Nat) (x0 : Int) (z : Sig) (hT : Top S q) (hW : Wf z) (hCR : CR S q (gT g) z) (hx0 : inR x0) (tt : Nat) (htt : tt = gT g) : MetH l g yL_order cL_order 4 (some .int) [(0, 9, 12, 35), (0, 9, 15, 15)] 9 4 90 [.ref (q 0), .int (iI x0), .ref (q 93)] S (PL (oOrd z x0) S q tt) := by
  refine MetH.of (own := RL) (lv := [(0, .ref (q 0)), (1, .int (iI x0)), (2, .ref (q 93))]) (by decide) rfl (Nat.le_of_ble_eq_true rfl) rfl ?_
  intro pX eX sX mX argsX belowX methX cX C hnc htab
  refine KAload_n C dL_order_0 rfl 2 rfl ?_
  refine KIconst C dL_order_1 ?_
  refine KAload_n C dL_order_2 rfl 0 rfl ?_
  refine KIload_n C dL_order_3 rfl 1 rfl ?_
  refine KCallVC (As := [.int (iI x0)]) (b := q 0) (st := [.int (iI 0), .ref (q 93)]) C (ct_X5_order l g hnt S q x0 z hT hW hCR hx0 tt htt) u_ml_RL_32 u_im_yX5_order u_se_yX5_order u_in_RX5 u_co_yX5_order hd_yX5_order (hT.at0 0 6) (by decide) rfl rfl ⟨Nat.le_of_ble_eq_true rfl, Nat.le_of_ble_eq_true rfl⟩ ⟨Nat.le_of_ble_eq_true rfl, Nat.le_of_ble_eq_true rfl⟩ (Nat.le_of_ble_eq_true rfl) dL_order_4 rfl (fun E7 u7 hx7 => ?_) (fun v7 u7 hp7 => ?_)
  · obtain ⟨hc, hcp⟩ := hx7
    rcases hc with ⟨e1, rfl⟩ | ⟨e1, rfl⟩
    · refine ⟨12, hnd0 htab (by decide) (by decide) (C.words _ u_cl_RL_35) (va_Nw.use rfl (C.nws.1 _ n_ca_java_lang_IllegalArgumentException_java_lang_IllegalArgumentException)), fun qx => ?_⟩
      refine KAstore_n C dL_order_12 rfl (by decide) rfl ?_
      refine KIconst C dL_order_13 ?_
      exact KH (KIret C rfl rfl (PL.thr e1 ⟨by decide, ⟨by omega, by omega⟩⟩ hcp) (by decide) (by decide) dL_order_14)
    · refine ⟨15, hnd1 htab (by decide) (by decide) (by decide) (C.words _ u_cl_RL_35) hnc.2.2 (C.words _ u_cl_RL_15) (va_Nw.use rfl (C.nws.1 _ n_ca_java_lang_IllegalStateException_java_lang_IllegalStateException)), fun qx => ?_⟩
      refine KAstore_n C dL_order_15 rfl (by decide) rfl ?_
      refine KIconst C dL_order_16 ?_
      exact KH (KIret C rfl rfl (PL.thr e1 ⟨by decide, ⟨by omega, by omega⟩⟩ hcp) (by decide) (by decide) dL_order_17)
  · obtain ⟨r, z9, e1, rfl, hcp⟩ := hp7
    refine KSt (st2 := [.int (iI r), .int (iI 0), .ref (q 93)]) rfl ?_
    refine KTop (iI_of (iI r)).symm ?_
    refine KI2l C dL_order_7 (inR_of _) ?_
    refine KLast (S := u7) C 1 (hcp.2.1.at0 93 23) (hcp.2.1.ln0 93 1) ⟨by decide, by decide⟩ (by decide) dL_order_8 ?_
    refine KGoto C dL_order_9 rfl ?_
    refine KIconst C dL_order_18 ?_
    exact KH (KIret C rfl rfl (PL.ok e1 hcp) (by decide) (by decide) dL_order_19)
theorem u_cw_line : (.codeWith yL_line cL_line 6 (some .int) [(0, 12, 15, 13), (0, 12, 19, 35), (0, 12, 23, 15)] : Cond) ∈ UW := uw 526 (by decide +kernel) (by decide +kernel)
theorem ct_L_line (l : Launch) (g : GG) (hnt : l.stackTraces = false) (S : Sto) (q : Nat → Nat) (x0 : Int) (x1 : Int) (x2 : Int) (z : Sig) (hT : Top S q) (hW : Wf z) (hCR : CR S q (gT g) z) (hx0 : inR x0) (hx1 : inR x1) (hx2 : inR x2) (tt : Nat) (htt : tt = gT g) : MetH l g yL_line cL_line 6 (some .int) [(0, 12, 15, 13), (0, 12, 19, 35), (0, 12, 23, 15)] 8 4 24 [.ref (q 0), .int (iI x0), .int (iI x1), .int (iI x2), .ref (q 93)] S (PL (oLin z x0 x1 x2) S q tt) := by
  refine MetH.of (own := RL) (lv := [(0, .ref (q 0)), (1, .int (iI x0)), (2, .int (iI x1)), (3, .int (iI x2)), (4, .ref (q 93))]) (by decide) rfl (Nat.le_of_ble_eq_true rfl) rfl ?_
  intro pX eX sX mX argsX belowX methX cX C hnc htab
  refine KAload C dL_line_0 4 rfl ?_
  refine KIconst C dL_line_2 ?_
  refine KAload_n C dL_line_3 rfl 0 rfl ?_
  refine KIload_n C dL_line_4 rfl 1 rfl ?_
  refine KIload_n C dL_line_5 rfl 2 rfl ?_
  refine KIload_n C dL_line_6 rfl 3 rfl ?_
  refine KCallVC (As := [.int (iI x0), .int (iI x1), .int (iI x2)]) (b := q 0) (st := [.int (iI 0), .ref (q 93)]) C (ct_X5_line l g hnt S q x0 x1 x2 z hT hW hCR hx0 hx1 hx2 tt htt) u_ml_RL_37 u_im_yX5_line u_se_yX5_line u_in_RX5 u_co_yX5_line hd_yX5_line (hT.at0 0 6) (by decide) rfl rfl ⟨Nat.le_of_ble_eq_true rfl, Nat.le_of_ble_eq_true rfl⟩ ⟨Nat.le_of_ble_eq_true rfl, Nat.le_of_ble_eq_true rfl⟩ (Nat.le_of_ble_eq_true rfl) dL_line_7 rfl (fun E7 u7 hx7 => ?_) (fun v7 u7 hp7 => ?_)
  · obtain ⟨hc, hcp⟩ := hx7
    rcases hc with ⟨e1, rfl⟩ | ⟨e1, rfl⟩ | ⟨e1, rfl⟩
    · refine ⟨15, hnd0 htab (by decide) (by decide) (C.words _ u_cl_RL_13) (va_Nw.use rfl (C.nws.1 _ n_ca_java_lang_IndexOutOfBoundsException_java_lang_IndexOutOfBoundsException)), fun qx => ?_⟩
      refine KAstore C dL_line_15 (by decide) rfl ?_
      refine KIconst C dL_line_17 ?_
      exact KH (KIret C rfl rfl (PL.thr e1 ⟨by decide, ⟨by omega, by omega⟩⟩ hcp) (by decide) (by decide) dL_line_18)
    · refine ⟨19, hnd1 htab (by decide) (by decide) (by decide) (C.words _ u_cl_RL_13) hnc.2.1 (C.words _ u_cl_RL_35) (va_Nw.use rfl (C.nws.1 _ n_ca_java_lang_IllegalArgumentException_java_lang_IllegalArgumentException)), fun qx => ?_⟩
      refine KAstore C dL_line_19 (by decide) rfl ?_
      refine KIconst C dL_line_21 ?_
      exact KH (KIret C rfl rfl (PL.thr e1 ⟨by decide, ⟨by omega, by omega⟩⟩ hcp) (by decide) (by decide) dL_line_22)
    · refine ⟨23, hnd2 htab (by decide) (by decide) (by decide) (C.words _ u_cl_RL_13) hnc.1 (by decide) (C.words _ u_cl_RL_35) hnc.2.2 (C.words _ u_cl_RL_15) (va_Nw.use rfl (C.nws.1 _ n_ca_java_lang_IllegalStateException_java_lang_IllegalStateException)), fun qx => ?_⟩
      refine KAstore C dL_line_23 (by decide) rfl ?_
      refine KIconst C dL_line_25 ?_
      exact KH (KIret C rfl rfl (PL.thr e1 ⟨by decide, ⟨by omega, by omega⟩⟩ hcp) (by decide) (by decide) dL_line_26)
  · obtain ⟨r, z9, e1, rfl, hcp⟩ := hp7
    refine KSt (st2 := [.int (iI r), .int (iI 0), .ref (q 93)]) rfl ?_
    refine KTop (iI_of (iI r)).symm ?_
    refine KI2l C dL_line_10 (inR_of _) ?_
    refine KLast (S := u7) C 1 (hcp.2.1.at0 93 23) (hcp.2.1.ln0 93 1) ⟨by decide, by decide⟩ (by decide) dL_line_11 ?_
    refine KGoto C dL_line_12 rfl ?_
    refine KIconst C dL_line_27 ?_
    exact KH (KIret C rfl rfl (PL.ok e1 hcp) (by decide) (by decide) dL_line_28)
theorem u_cw_stateOf : (.codeWith yL_stateOf cL_stateOf 4 (some .int) [(0, 9, 12, 13)] : Cond) ∈ UW := uw 579 (by decide +kernel) (by decide +kernel)
theorem ct_L_stateOf (l : Launch) (g : GG) (hnt : l.stackTraces = false) (S : Sto) (q : Nat → Nat) (x0 : Int) (z : Sig) (hT : Top S q) (hW : Wf z) (hCR : CR S q (gT g) z) (hx0 : inR x0) (tt : Nat) (htt : tt = gT g) : MetH l g yL_stateOf cL_stateOf 4 (some .int) [(0, 9, 12, 13)] 8 1 6 [.ref (q 0), .int (iI x0), .ref (q 93)] S (PL (oSt z x0) S q tt) := by
  refine MetH.of (own := RL) (lv := [(0, .ref (q 0)), (1, .int (iI x0)), (2, .ref (q 93))]) (by decide) rfl (Nat.le_of_ble_eq_true rfl) rfl ?_
  intro pX eX sX mX argsX belowX methX cX C hnc htab
  refine KAload_n C dL_stateOf_0 rfl 2 rfl ?_
  refine KIconst C dL_stateOf_1 ?_
  refine KAload_n C dL_stateOf_2 rfl 0 rfl ?_
  refine KIload_n C dL_stateOf_3 rfl 1 rfl ?_
  refine KCallVC (As := [.int (iI x0)]) (b := q 0) (st := [.int (iI 0), .ref (q 93)]) C (ct_X5_stateOf l g hnt S q x0 z hT hW hCR hx0 tt htt) u_ml_RL_40 u_im_yX5_stateOf u_se_yX5_stateOf u_in_RX5 u_co_yX5_stateOf hd_yX5_stateOf (hT.at0 0 6) (by decide) rfl rfl ⟨Nat.le_of_ble_eq_true rfl, Nat.le_of_ble_eq_true rfl⟩ ⟨Nat.le_of_ble_eq_true rfl, Nat.le_of_ble_eq_true rfl⟩ (Nat.le_of_ble_eq_true rfl) dL_stateOf_4 rfl (fun E7 u7 hx7 => ?_) (fun v7 u7 hp7 => ?_)
  · obtain ⟨hc, hcp⟩ := hx7
    obtain ⟨e1, rfl⟩ := hc
    refine ⟨12, hnd0 htab (by decide) (by decide) (C.words _ u_cl_RL_13) (va_Nw.use rfl (C.nws.1 _ n_ca_java_lang_IndexOutOfBoundsException_java_lang_IndexOutOfBoundsException)), fun qx => ?_⟩
    refine KAstore_n C dL_stateOf_12 rfl (by decide) rfl ?_
    refine KIconst C dL_stateOf_13 ?_
    exact KH (KIret C rfl rfl (PL.thr e1 ⟨by decide, ⟨by omega, by omega⟩⟩ hcp) (by decide) (by decide) dL_stateOf_14)
  · obtain ⟨r, z9, e1, rfl, hcp⟩ := hp7
    refine KSt (st2 := [.int (iI r), .int (iI 0), .ref (q 93)]) rfl ?_
    refine KTop (iI_of (iI r)).symm ?_
    refine KI2l C dL_stateOf_7 (inR_of _) ?_
    refine KLast (S := u7) C 1 (hcp.2.1.at0 93 23) (hcp.2.1.ln0 93 1) ⟨by decide, by decide⟩ (by decide) dL_stateOf_8 ?_
    refine KGoto C dL_stateOf_9 rfl ?_
    refine KIconst C dL_stateOf_15 ?_
    exact KH (KIret C rfl rfl (PL.ok e1 hcp) (by decide) (by decide) dL_stateOf_16)
theorem u_cw_lengthAlone : (.codeWith yL_lengthAlone cL_lengthAlone 4 (some .int) [(0, 9, 12, 13)] : Cond) ∈ UW := uw 586 (by decide +kernel) (by decide +kernel)
theorem ct_L_lengthAlone (l : Launch) (g : GG) (hnt : l.stackTraces = false) (S : Sto) (q : Nat → Nat) (x0 : Int) (z : Sig) (hT : Top S q) (hW : Wf z) (hCR : CR S q (gT g) z) (hx0 : inR x0) (tt : Nat) (htt : tt = gT g) : MetH l g yL_lengthAlone cL_lengthAlone 4 (some .int) [(0, 9, 12, 13)] 8 1 6 [.ref (q 0), .int (iI x0), .ref (q 93)] S (PL (oLa z x0) S q tt) := by
  refine MetH.of (own := RL) (lv := [(0, .ref (q 0)), (1, .int (iI x0)), (2, .ref (q 93))]) (by decide) rfl (Nat.le_of_ble_eq_true rfl) rfl ?_
  intro pX eX sX mX argsX belowX methX cX C hnc htab
  refine KAload_n C dL_lengthAlone_0 rfl 2 rfl ?_
  refine KIconst C dL_lengthAlone_1 ?_
  refine KAload_n C dL_lengthAlone_2 rfl 0 rfl ?_
  refine KIload_n C dL_lengthAlone_3 rfl 1 rfl ?_
  refine KCallVC (As := [.int (iI x0)]) (b := q 0) (st := [.int (iI 0), .ref (q 93)]) C (ct_X5_lengthAlone l g hnt S q x0 z hT hW hCR hx0 tt htt) u_ml_RL_43 u_im_yX5_lengthAlone u_se_yX5_lengthAlone u_in_RX5 u_co_yX5_lengthAlone hd_yX5_lengthAlone (hT.at0 0 6) (by decide) rfl rfl ⟨Nat.le_of_ble_eq_true rfl, Nat.le_of_ble_eq_true rfl⟩ ⟨Nat.le_of_ble_eq_true rfl, Nat.le_of_ble_eq_true rfl⟩ (Nat.le_of_ble_eq_true rfl) dL_lengthAlone_4 rfl (fun E7 u7 hx7 => ?_) (fun v7 u7 hp7 => ?_)
  · obtain ⟨hc, hcp⟩ := hx7
    obtain ⟨e1, rfl⟩ := hc
    refine ⟨12, hnd0 htab (by decide) (by decide) (C.words _ u_cl_RL_13) (va_Nw.use rfl (C.nws.1 _ n_ca_java_lang_IndexOutOfBoundsException_java_lang_IndexOutOfBoundsException)), fun qx => ?_⟩
    refine KAstore_n C dL_lengthAlone_12 rfl (by decide) rfl ?_
    refine KIconst C dL_lengthAlone_13 ?_
    exact KH (KIret C rfl rfl (PL.thr e1 ⟨by decide, ⟨by omega, by omega⟩⟩ hcp) (by decide) (by decide) dL_lengthAlone_14)
  · obtain ⟨r, z9, e1, rfl, hcp⟩ := hp7
    refine KSt (st2 := [.int (iI r), .int (iI 0), .ref (q 93)]) rfl ?_
    refine KTop (iI_of (iI r)).symm ?_
    refine KI2l C dL_lengthAlone_7 (inR_of _) ?_
    refine KLast (S := u7) C 1 (hcp.2.1.at0 93 23) (hcp.2.1.ln0 93 1) ⟨by decide, by decide⟩ (by decide) dL_lengthAlone_8 ?_
    refine KGoto C dL_lengthAlone_9 rfl ?_
    refine KIconst C dL_lengthAlone_15 ?_
    exact KH (KIret C rfl rfl (PL.ok e1 hcp) (by decide) (by decide) dL_lengthAlone_16)
theorem u_cw_setCapacity : (.codeWith yL_setCapacity cL_setCapacity 4 (some .int) [(0, 9, 12, 35), (0, 9, 15, 15)] : Cond) ∈ UW := uw 625 (by decide +kernel) (by decide +kernel)
theorem ct_L_setCapacity (l : Launch) (g : GG) (hnt : l.stackTraces = false) (S : Sto) (q : Nat → Nat) (x0 : Int) (z : Sig) (hT : Top S q) (hW : Wf z) (hCR : CR S q (gT g) z) (hx0 : inR x0) (tt : Nat) (htt : tt = gT g) : MetH l g yL_setCapacity cL_setCapacity 4 (some .int) [(0, 9, 12, 35), (0, 9, 15, 15)] 8 2 12 [.ref (q 0), .int (iI x0), .ref (q 93)] S (PL (oCap z x0) S q tt) := by
  refine MetH.of (own := RL) (lv := [(0, .ref (q 0)), (1, .int (iI x0)), (2, .ref (q 93))]) (by decide) rfl (Nat.le_of_ble_eq_true rfl) rfl ?_
  intro pX eX sX mX argsX belowX methX cX C hnc htab
  refine KAload_n C dL_setCapacity_0 rfl 2 rfl ?_
  refine KIconst C dL_setCapacity_1 ?_
  refine KAload_n C dL_setCapacity_2 rfl 0 rfl ?_
  refine KIload_n C dL_setCapacity_3 rfl 1 rfl ?_
  refine KCallVC (As := [.int (iI x0)]) (b := q 0) (st := [.int (iI 0), .ref (q 93)]) C (ct_X5_setCapacity l g hnt S q x0 z hT hW hCR hx0 tt htt) u_ml_RL_46 u_im_yX5_setCapacity u_se_yX5_setCapacity u_in_RX5 u_co_yX5_setCapacity hd_yX5_setCapacity (hT.at0 0 6) (by decide) rfl rfl ⟨Nat.le_of_ble_eq_true rfl, Nat.le_of_ble_eq_true rfl⟩ ⟨Nat.le_of_ble_eq_true rfl, Nat.le_of_ble_eq_true rfl⟩ (Nat.le_of_ble_eq_true rfl) dL_setCapacity_4 rfl (fun E7 u7 hx7 => ?_) (fun v7 u7 hp7 => ?_)
  · obtain ⟨hc, hcp⟩ := hx7
    rcases hc with ⟨e1, rfl⟩ | ⟨e1, rfl⟩
    · refine ⟨12, hnd0 htab (by decide) (by decide) (C.words _ u_cl_RL_35) (va_Nw.use rfl (C.nws.1 _ n_ca_java_lang_IllegalArgumentException_java_lang_IllegalArgumentException)), fun qx => ?_⟩
      refine KAstore_n C dL_setCapacity_12 rfl (by decide) rfl ?_
      refine KIconst C dL_setCapacity_13 ?_
      exact KH (KIret C rfl rfl (PL.thr e1 ⟨by decide, ⟨by omega, by omega⟩⟩ hcp) (by decide) (by decide) dL_setCapacity_14)
    · refine ⟨15, hnd1 htab (by decide) (by decide) (by decide) (C.words _ u_cl_RL_35) hnc.2.2 (C.words _ u_cl_RL_15) (va_Nw.use rfl (C.nws.1 _ n_ca_java_lang_IllegalStateException_java_lang_IllegalStateException)), fun qx => ?_⟩
      refine KAstore_n C dL_setCapacity_15 rfl (by decide) rfl ?_
      refine KIconst C dL_setCapacity_16 ?_
      exact KH (KIret C rfl rfl (PL.thr e1 ⟨by decide, ⟨by omega, by omega⟩⟩ hcp) (by decide) (by decide) dL_setCapacity_17)
  · obtain ⟨r, z9, e1, rfl, hcp⟩ := hp7
    refine KSt (st2 := [.int (iI r), .int (iI 0), .ref (q 93)]) rfl ?_
    refine KTop (iI_of (iI r)).symm ?_
    refine KI2l C dL_setCapacity_7 (inR_of _) ?_
    refine KLast (S := u7) C 1 (hcp.2.1.at0 93 23) (hcp.2.1.ln0 93 1) ⟨by decide, by decide⟩ (by decide) dL_setCapacity_8 ?_
    refine KGoto C dL_setCapacity_9 rfl ?_
    refine KIconst C dL_setCapacity_18 ?_
    exact KH (KIret C rfl rfl (PL.ok e1 hcp) (by decide) (by decide) dL_setCapacity_19)
