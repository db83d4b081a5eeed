/-! ===== the law's own methods ===== -/
theorem u_cw_planWave : (.codeWith yL_planWave cL_planWave 4 (some .int) [(0, 9, 12, 35), (0, 9, 15, 15)] : Cond) ∈ UW := uw 638 (by decide +kernel) (by decide +kernel)
theorem ct_L_planWave (l : Launch) (g : GG) (hnt : l.stackTraces = false) (S : Sto) (q : Nat → Nat) (x0 : Int) (z : Sig) (hT : Top S q) (hW : Wf z) (hCR : CR S q (gT g) z) (hx0 : inR x0) (tt : Nat) (htt : tt = gT g) : MetH l g yL_planWave cL_planWave 4 (some .int) [(0, 9, 12, 35), (0, 9, 15, 15)] 10 161 3006 [.ref (q 0), .int (iI x0), .ref (q 93)] S (PL (oPw z x0) S q tt) := by
  refine MetH.of (own := RL) (lv := [(0, .ref (q 0)), (1, .int (iI x0)), (2, .ref (q 93))]) (by decide) rfl (Nat.le_of_ble_eq_true rfl) rfl ?_
  intro pX eX sX mX argsX belowX methX cX C hnc htab
  refine KAload_n C dL_planWave_0 rfl 2 rfl ?_
  refine KIconst C dL_planWave_1 ?_
  refine KAload_n C dL_planWave_2 rfl 0 rfl ?_
  refine KIload_n C dL_planWave_3 rfl 1 rfl ?_
  refine KCallVC (As := [.int (iI x0)]) (b := q 0) (st := [.int (iI 0), .ref (q 93)]) C (ct_X5_planWave l g hnt S q x0 z hT hW hCR hx0 tt htt) u_ml_RL_49 u_im_yX5_planWave u_se_yX5_planWave u_in_RX5 u_co_yX5_planWave hd_yX5_planWave (hT.at0 0 6) (by decide) rfl rfl ⟨Nat.le_of_ble_eq_true rfl, Nat.le_of_ble_eq_true rfl⟩ ⟨Nat.le_of_ble_eq_true rfl, Nat.le_of_ble_eq_true rfl⟩ (Nat.le_of_ble_eq_true rfl) dL_planWave_4 rfl (fun E7 u7 hx7 => ?_) (fun v7 u7 hp7 => ?_)
  · obtain ⟨hc, hcp⟩ := hx7
    rcases hc with ⟨e1, rfl⟩ | ⟨e1, rfl⟩
    · refine ⟨12, hnd0 htab (by decide) (by decide) (C.words _ u_cl_RL_35) (va_Nw.use rfl (C.nws.1 _ n_ca_java_lang_IllegalArgumentException_java_lang_IllegalArgumentException)), fun qx => ?_⟩
      refine KAstore_n C dL_planWave_12 rfl (by decide) rfl ?_
      refine KIconst C dL_planWave_13 ?_
      exact KH (KIret C rfl rfl (PL.thr e1 ⟨by decide, ⟨by omega, by omega⟩⟩ hcp) (by decide) (by decide) dL_planWave_14)
    · refine ⟨15, hnd1 htab (by decide) (by decide) (by decide) (C.words _ u_cl_RL_35) hnc.2.2 (C.words _ u_cl_RL_15) (va_Nw.use rfl (C.nws.1 _ n_ca_java_lang_IllegalStateException_java_lang_IllegalStateException)), fun qx => ?_⟩
      refine KAstore_n C dL_planWave_15 rfl (by decide) rfl ?_
      refine KIconst C dL_planWave_16 ?_
      exact KH (KIret C rfl rfl (PL.thr e1 ⟨by decide, ⟨by omega, by omega⟩⟩ hcp) (by decide) (by decide) dL_planWave_17)
  · obtain ⟨r, z9, e1, rfl, hcp⟩ := hp7
    refine KSt (st2 := [.int (iI r), .int (iI 0), .ref (q 93)]) rfl ?_
    refine KTop (iI_of (iI r)).symm ?_
    refine KI2l C dL_planWave_7 (inR_of _) ?_
    refine KLast (S := u7) C 1 (hcp.2.1.at0 93 23) (hcp.2.1.ln0 93 1) ⟨by decide, by decide⟩ (by decide) dL_planWave_8 ?_
    refine KGoto C dL_planWave_9 rfl ?_
    refine KIconst C dL_planWave_18 ?_
    exact KH (KIret C rfl rfl (PL.ok e1 hcp) (by decide) (by decide) dL_planWave_19)
theorem u_cw_pick : (.codeWith yL_pick cL_pick 4 (some .int) [(0, 9, 12, 13)] : Cond) ∈ UW := uw 733 (by decide +kernel) (by decide +kernel)
theorem ct_L_pick (l : Launch) (g : GG) (hnt : l.stackTraces = false) (S : Sto) (q : Nat → Nat) (x0 : Int) (z : Sig) (hT : Top S q) (hW : Wf z) (hCR : CR S q (gT g) z) (hx0 : inR x0) (tt : Nat) (htt : tt = gT g) : MetH l g yL_pick cL_pick 4 (some .int) [(0, 9, 12, 13)] 8 1 6 [.ref (q 0), .int (iI x0), .ref (q 93)] S (PL (oPk z x0) S q tt) := by
  refine MetH.of (own := RL) (lv := [(0, .ref (q 0)), (1, .int (iI x0)), (2, .ref (q 93))]) (by decide) rfl (Nat.le_of_ble_eq_true rfl) rfl ?_
  intro pX eX sX mX argsX belowX methX cX C hnc htab
  refine KAload_n C dL_pick_0 rfl 2 rfl ?_
  refine KIconst C dL_pick_1 ?_
  refine KAload_n C dL_pick_2 rfl 0 rfl ?_
  refine KIload_n C dL_pick_3 rfl 1 rfl ?_
  refine KCallVC (As := [.int (iI x0)]) (b := q 0) (st := [.int (iI 0), .ref (q 93)]) C (ct_X5_pick l g hnt S q x0 z hT hW hCR hx0 tt htt) u_ml_RL_52 u_im_yX5_pick u_se_yX5_pick u_in_RX5 u_co_yX5_pick hd_yX5_pick (hT.at0 0 6) (by decide) rfl rfl ⟨Nat.le_of_ble_eq_true rfl, Nat.le_of_ble_eq_true rfl⟩ ⟨Nat.le_of_ble_eq_true rfl, Nat.le_of_ble_eq_true rfl⟩ (Nat.le_of_ble_eq_true rfl) dL_pick_4 rfl (fun E7 u7 hx7 => ?_) (fun v7 u7 hp7 => ?_)
  · obtain ⟨hc, hcp⟩ := hx7
    obtain ⟨e1, rfl⟩ := hc
    refine ⟨12, hnd0 htab (by decide) (by decide) (C.words _ u_cl_RL_13) (va_Nw.use rfl (C.nws.1 _ n_ca_java_lang_IndexOutOfBoundsException_java_lang_IndexOutOfBoundsException)), fun qx => ?_⟩
    refine KAstore_n C dL_pick_12 rfl (by decide) rfl ?_
    refine KIconst C dL_pick_13 ?_
    exact KH (KIret C rfl rfl (PL.thr e1 ⟨by decide, ⟨by omega, by omega⟩⟩ hcp) (by decide) (by decide) dL_pick_14)
  · obtain ⟨r, z9, e1, rfl, hcp⟩ := hp7
    refine KSt (st2 := [.int (iI r), .int (iI 0), .ref (q 93)]) rfl ?_
    refine KTop (iI_of (iI r)).symm ?_
    refine KI2l C dL_pick_7 (inR_of _) ?_
    refine KLast (S := u7) C 1 (hcp.2.1.at0 93 23) (hcp.2.1.ln0 93 1) ⟨by decide, by decide⟩ (by decide) dL_pick_8 ?_
    refine KGoto C dL_pick_9 rfl ?_
    refine KIconst C dL_pick_15 ?_
    exact KH (KIret C rfl rfl (PL.ok e1 hcp) (by decide) (by decide) dL_pick_16)
theorem u_cw_batchOf : (.codeWith yL_batchOf cL_batchOf 4 (some .int) [(0, 9, 12, 13)] : Cond) ∈ UW := uw 762 (by decide +kernel) (by decide +kernel)
theorem ct_L_batchOf (l : Launch) (g : GG) (hnt : l.stackTraces = false) (S : Sto) (q : Nat → Nat) (x0 : Int) (z : Sig) (hT : Top S q) (hW : Wf z) (hCR : CR S q (gT g) z) (hx0 : inR x0) (tt : Nat) (htt : tt = gT g) : MetH l g yL_batchOf cL_batchOf 4 (some .int) [(0, 9, 12, 13)] 8 1 6 [.ref (q 0), .int (iI x0), .ref (q 93)] S (PL (oBt z x0) S q tt) := by
  refine MetH.of (own := RL) (lv := [(0, .ref (q 0)), (1, .int (iI x0)), (2, .ref (q 93))]) (by decide) rfl (Nat.le_of_ble_eq_true rfl) rfl ?_
  intro pX eX sX mX argsX belowX methX cX C hnc htab
  refine KAload_n C dL_batchOf_0 rfl 2 rfl ?_
  refine KIconst C dL_batchOf_1 ?_
  refine KAload_n C dL_batchOf_2 rfl 0 rfl ?_
  refine KIload_n C dL_batchOf_3 rfl 1 rfl ?_
  refine KCallVC (As := [.int (iI x0)]) (b := q 0) (st := [.int (iI 0), .ref (q 93)]) C (ct_X5_batchOf l g hnt S q x0 z hT hW hCR hx0 tt htt) u_ml_RL_55 u_im_yX5_batchOf u_se_yX5_batchOf u_in_RX5 u_co_yX5_batchOf hd_yX5_batchOf (hT.at0 0 6) (by decide) rfl rfl ⟨Nat.le_of_ble_eq_true rfl, Nat.le_of_ble_eq_true rfl⟩ ⟨Nat.le_of_ble_eq_true rfl, Nat.le_of_ble_eq_true rfl⟩ (Nat.le_of_ble_eq_true rfl) dL_batchOf_4 rfl (fun E7 u7 hx7 => ?_) (fun v7 u7 hp7 => ?_)
  · obtain ⟨hc, hcp⟩ := hx7
    obtain ⟨e1, rfl⟩ := hc
    refine ⟨12, hnd0 htab (by decide) (by decide) (C.words _ u_cl_RL_13) (va_Nw.use rfl (C.nws.1 _ n_ca_java_lang_IndexOutOfBoundsException_java_lang_IndexOutOfBoundsException)), fun qx => ?_⟩
    refine KAstore_n C dL_batchOf_12 rfl (by decide) rfl ?_
    refine KIconst C dL_batchOf_13 ?_
    exact KH (KIret C rfl rfl (PL.thr e1 ⟨by decide, ⟨by omega, by omega⟩⟩ hcp) (by decide) (by decide) dL_batchOf_14)
  · obtain ⟨r, z9, e1, rfl, hcp⟩ := hp7
    refine KSt (st2 := [.int (iI r), .int (iI 0), .ref (q 93)]) rfl ?_
    refine KTop (iI_of (iI r)).symm ?_
    refine KI2l C dL_batchOf_7 (inR_of _) ?_
    refine KLast (S := u7) C 1 (hcp.2.1.at0 93 23) (hcp.2.1.ln0 93 1) ⟨by decide, by decide⟩ (by decide) dL_batchOf_8 ?_
    refine KGoto C dL_batchOf_9 rfl ?_
    refine KIconst C dL_batchOf_15 ?_
    exact KH (KIret C rfl rfl (PL.ok e1 hcp) (by decide) (by decide) dL_batchOf_16)
theorem u_cw_linesOf : (.codeWith yL_linesOf cL_linesOf 4 (some .int) [(0, 9, 12, 13)] : Cond) ∈ UW := uw 774 (by decide +kernel) (by decide +kernel)
theorem ct_L_linesOf (l : Launch) (g : GG) (hnt : l.stackTraces = false) (S : Sto) (q : Nat → Nat) (x0 : Int) (z : Sig) (hT : Top S q) (hW : Wf z) (hCR : CR S q (gT g) z) (hx0 : inR x0) (tt : Nat) (htt : tt = gT g) : MetH l g yL_linesOf cL_linesOf 4 (some .int) [(0, 9, 12, 13)] 8 1 6 [.ref (q 0), .int (iI x0), .ref (q 93)] S (PL (oLn z x0) S q tt) := by
  refine MetH.of (own := RL) (lv := [(0, .ref (q 0)), (1, .int (iI x0)), (2, .ref (q 93))]) (by decide) rfl (Nat.le_of_ble_eq_true rfl) rfl ?_
  intro pX eX sX mX argsX belowX methX cX C hnc htab
  refine KAload_n C dL_linesOf_0 rfl 2 rfl ?_
  refine KIconst C dL_linesOf_1 ?_
  refine KAload_n C dL_linesOf_2 rfl 0 rfl ?_
  refine KIload_n C dL_linesOf_3 rfl 1 rfl ?_
  refine KCallVC (As := [.int (iI x0)]) (b := q 0) (st := [.int (iI 0), .ref (q 93)]) C (ct_X5_linesOf l g hnt S q x0 z hT hW hCR hx0 tt htt) u_ml_RL_58 u_im_yX5_linesOf u_se_yX5_linesOf u_in_RX5 u_co_yX5_linesOf hd_yX5_linesOf (hT.at0 0 6) (by decide) rfl rfl ⟨Nat.le_of_ble_eq_true rfl, Nat.le_of_ble_eq_true rfl⟩ ⟨Nat.le_of_ble_eq_true rfl, Nat.le_of_ble_eq_true rfl⟩ (Nat.le_of_ble_eq_true rfl) dL_linesOf_4 rfl (fun E7 u7 hx7 => ?_) (fun v7 u7 hp7 => ?_)
  · obtain ⟨hc, hcp⟩ := hx7
    obtain ⟨e1, rfl⟩ := hc
    refine ⟨12, hnd0 htab (by decide) (by decide) (C.words _ u_cl_RL_13) (va_Nw.use rfl (C.nws.1 _ n_ca_java_lang_IndexOutOfBoundsException_java_lang_IndexOutOfBoundsException)), fun qx => ?_⟩
    refine KAstore_n C dL_linesOf_12 rfl (by decide) rfl ?_
    refine KIconst C dL_linesOf_13 ?_
    exact KH (KIret C rfl rfl (PL.thr e1 ⟨by decide, ⟨by omega, by omega⟩⟩ hcp) (by decide) (by decide) dL_linesOf_14)
  · obtain ⟨r, z9, e1, rfl, hcp⟩ := hp7
    refine KSt (st2 := [.int (iI r), .int (iI 0), .ref (q 93)]) rfl ?_
    refine KTop (iI_of (iI r)).symm ?_
    refine KI2l C dL_linesOf_7 (inR_of _) ?_
    refine KLast (S := u7) C 1 (hcp.2.1.at0 93 23) (hcp.2.1.ln0 93 1) ⟨by decide, by decide⟩ (by decide) dL_linesOf_8 ?_
    refine KGoto C dL_linesOf_9 rfl ?_
    refine KIconst C dL_linesOf_15 ?_
    exact KH (KIret C rfl rfl (PL.ok e1 hcp) (by decide) (by decide) dL_linesOf_16)
theorem u_cw_lengthOf : (.codeWith yL_lengthOf cL_lengthOf 4 (some .int) [(0, 9, 12, 13)] : Cond) ∈ UW := uw 781 (by decide +kernel) (by decide +kernel)
theorem ct_L_lengthOf (l : Launch) (g : GG) (hnt : l.stackTraces = false) (S : Sto) (q : Nat → Nat) (x0 : Int) (z : Sig) (hT : Top S q) (hW : Wf z) (hCR : CR S q (gT g) z) (hx0 : inR x0) (tt : Nat) (htt : tt = gT g) : MetH l g yL_lengthOf cL_lengthOf 4 (some .int) [(0, 9, 12, 13)] 8 1 6 [.ref (q 0), .int (iI x0), .ref (q 93)] S (PL (oLo z x0) S q tt) := by
  refine MetH.of (own := RL) (lv := [(0, .ref (q 0)), (1, .int (iI x0)), (2, .ref (q 93))]) (by decide) rfl (Nat.le_of_ble_eq_true rfl) rfl ?_
  intro pX eX sX mX argsX belowX methX cX C hnc htab
  refine KAload_n C dL_lengthOf_0 rfl 2 rfl ?_
  refine KIconst C dL_lengthOf_1 ?_
  refine KAload_n C dL_lengthOf_2 rfl 0 rfl ?_
  refine KIload_n C dL_lengthOf_3 rfl 1 rfl ?_
  refine KCallVC (As := [.int (iI x0)]) (b := q 0) (st := [.int (iI 0), .ref (q 93)]) C (ct_X5_lengthOf l g hnt S q x0 z hT hW hCR hx0 tt htt) u_ml_RL_61 u_im_yX5_lengthOf u_se_yX5_lengthOf u_in_RX5 u_co_yX5_lengthOf hd_yX5_lengthOf (hT.at0 0 6) (by decide) rfl rfl ⟨Nat.le_of_ble_eq_true rfl, Nat.le_of_ble_eq_true rfl⟩ ⟨Nat.le_of_ble_eq_true rfl, Nat.le_of_ble_eq_true rfl⟩ (Nat.le_of_ble_eq_true rfl) dL_lengthOf_4 rfl (fun E7 u7 hx7 => ?_) (fun v7 u7 hp7 => ?_)
  · obtain ⟨hc, hcp⟩ := hx7
    obtain ⟨e1, rfl⟩ := hc
    refine ⟨12, hnd0 htab (by decide) (by decide) (C.words _ u_cl_RL_13) (va_Nw.use rfl (C.nws.1 _ n_ca_java_lang_IndexOutOfBoundsException_java_lang_IndexOutOfBoundsException)), fun qx => ?_⟩
    refine KAstore_n C dL_lengthOf_12 rfl (by decide) rfl ?_
    refine KIconst C dL_lengthOf_13 ?_
    exact KH (KIret C rfl rfl (PL.thr e1 ⟨by decide, ⟨by omega, by omega⟩⟩ hcp) (by decide) (by decide) dL_lengthOf_14)
  · obtain ⟨r, z9, e1, rfl, hcp⟩ := hp7
    refine KSt (st2 := [.int (iI r), .int (iI 0), .ref (q 93)]) rfl ?_
    refine KTop (iI_of (iI r)).symm ?_
    refine KI2l C dL_lengthOf_7 (inR_of _) ?_
    refine KLast (S := u7) C 1 (hcp.2.1.at0 93 23) (hcp.2.1.ln0 93 1) ⟨by decide, by decide⟩ (by decide) dL_lengthOf_8 ?_
    refine KGoto C dL_lengthOf_9 rfl ?_
    refine KIconst C dL_lengthOf_15 ?_
    exact KH (KIret C rfl rfl (PL.ok e1 hcp) (by decide) (by decide) dL_lengthOf_16)
theorem u_cw_lengthByTrying : (.codeWith yL_lengthByTrying cL_lengthByTrying 4 (some .int) [(0, 9, 12, 13), (0, 9, 15, 15)] : Cond) ∈ UW := uw 788 (by decide +kernel) (by decide +kernel)
theorem ct_L_lengthByTrying (l : Launch) (g : GG) (hnt : l.stackTraces = false) (S : Sto) (q : Nat → Nat) (x0 : Int) (z : Sig) (hT : Top S q) (hW : Wf z) (hCR : CR S q (gT g) z) (hx0 : inR x0) (tt : Nat) (htt : tt = gT g) : MetH l g yL_lengthByTrying cL_lengthByTrying 4 (some .int) [(0, 9, 12, 13), (0, 9, 15, 15)] 15 2 12 [.ref (q 0), .int (iI x0), .ref (q 93)] S (PL (oLt z x0) S q tt) := by
  refine MetH.of (own := RL) (lv := [(0, .ref (q 0)), (1, .int (iI x0)), (2, .ref (q 93))]) (by decide) rfl (Nat.le_of_ble_eq_true rfl) rfl ?_
  intro pX eX sX mX argsX belowX methX cX C hnc htab
  refine KAload_n C dL_lengthByTrying_0 rfl 2 rfl ?_
  refine KIconst C dL_lengthByTrying_1 ?_
  refine KAload_n C dL_lengthByTrying_2 rfl 0 rfl ?_
  refine KIload_n C dL_lengthByTrying_3 rfl 1 rfl ?_
  refine KCallVC (As := [.int (iI x0)]) (b := q 0) (st := [.int (iI 0), .ref (q 93)]) C (ct_X5_lengthByTrying l g hnt S q x0 z hT hW hCR hx0 tt htt) u_ml_RL_64 u_im_yX5_lengthByTrying u_se_yX5_lengthByTrying u_in_RX5 u_co_yX5_lengthByTrying hd_yX5_lengthByTrying (hT.at0 0 6) (by decide) rfl rfl ⟨Nat.le_of_ble_eq_true rfl, Nat.le_of_ble_eq_true rfl⟩ ⟨Nat.le_of_ble_eq_true rfl, Nat.le_of_ble_eq_true rfl⟩ (Nat.le_of_ble_eq_true rfl) dL_lengthByTrying_4 rfl (fun E7 u7 hx7 => ?_) (fun v7 u7 hp7 => ?_)
  · obtain ⟨hc, hcp⟩ := hx7
    rcases hc with ⟨e1, rfl⟩ | ⟨e1, rfl⟩
    · refine ⟨12, hnd0 htab (by decide) (by decide) (C.words _ u_cl_RL_13) (va_Nw.use rfl (C.nws.1 _ n_ca_java_lang_IndexOutOfBoundsException_java_lang_IndexOutOfBoundsException)), fun qx => ?_⟩
      refine KAstore_n C dL_lengthByTrying_12 rfl (by decide) rfl ?_
      refine KIconst C dL_lengthByTrying_13 ?_
      exact KH (KIret C rfl rfl (PL.thr e1 ⟨by decide, ⟨by omega, by omega⟩⟩ hcp) (by decide) (by decide) dL_lengthByTrying_14)
    · refine ⟨15, hnd1 htab (by decide) (by decide) (by decide) (C.words _ u_cl_RL_13) hnc.1 (C.words _ u_cl_RL_15) (va_Nw.use rfl (C.nws.1 _ n_ca_java_lang_IllegalStateException_java_lang_IllegalStateException)), fun qx => ?_⟩
      refine KAstore_n C dL_lengthByTrying_15 rfl (by decide) rfl ?_
      refine KIconst C dL_lengthByTrying_16 ?_
      exact KH (KIret C rfl rfl (PL.thr e1 ⟨by decide, ⟨by omega, by omega⟩⟩ hcp) (by decide) (by decide) dL_lengthByTrying_17)
  · obtain ⟨r, z9, e1, rfl, hcp⟩ := hp7
    refine KSt (st2 := [.int (iI r), .int (iI 0), .ref (q 93)]) rfl ?_
    refine KTop (iI_of (iI r)).symm ?_
    refine KI2l C dL_lengthByTrying_7 (inR_of _) ?_
    refine KLast (S := u7) C 1 (hcp.2.1.at0 93 23) (hcp.2.1.ln0 93 1) ⟨by decide, by decide⟩ (by decide) dL_lengthByTrying_8 ?_
    refine KGoto C dL_lengthByTrying_9 rfl ?_
    refine KIconst C dL_lengthByTrying_18 ?_
    exact KH (KIret C rfl rfl (PL.ok e1 hcp) (by decide) (by decide) dL_lengthByTrying_19)
theorem u_cw_lengthThrough : (.codeWith yL_lengthThrough cL_lengthThrough 4 (some .int) [(0, 9, 12, 13)] : Cond) ∈ UW := uw 803 (by decide +kernel) (by decide +kernel)
theorem ct_L_lengthThrough (l : Launch) (g : GG) (hnt : l.stackTraces = false) (S : Sto) (q : Nat → Nat) (x0 : Int) (z : Sig) (hT : Top S q) (hW : Wf z) (hCR : CR S q (gT g) z) (hx0 : inR x0) (tt : Nat) (htt : tt = gT g) : MetH l g yL_lengthThrough cL_lengthThrough 4 (some .int) [(0, 9, 12, 13)] 8 1 6 [.ref (q 0), .int (iI x0), .ref (q 93)] S (PL (oTh z x0) S q tt) := by
  refine MetH.of (own := RL) (lv := [(0, .ref (q 0)), (1, .int (iI x0)), (2, .ref (q 93))]) (by decide) rfl (Nat.le_of_ble_eq_true rfl) rfl ?_
  intro pX eX sX mX argsX belowX methX cX C hnc htab
  refine KAload_n C dL_lengthThrough_0 rfl 2 rfl ?_
  refine KIconst C dL_lengthThrough_1 ?_
  refine KAload_n C dL_lengthThrough_2 rfl 0 rfl ?_
  refine KIload_n C dL_lengthThrough_3 rfl 1 rfl ?_
  refine KCallVC (As := [.int (iI x0)]) (b := q 0) (st := [.int (iI 0), .ref (q 93)]) C (ct_X5_lengthThrough l g hnt S q x0 z hT hW hCR hx0 tt htt) u_ml_RL_67 u_im_yX5_lengthThrough u_se_yX5_lengthThrough u_in_RX5 u_co_yX5_lengthThrough hd_yX5_lengthThrough (hT.at0 0 6) (by decide) rfl rfl ⟨Nat.le_of_ble_eq_true rfl, Nat.le_of_ble_eq_true rfl⟩ ⟨Nat.le_of_ble_eq_true rfl, Nat.le_of_ble_eq_true rfl⟩ (Nat.le_of_ble_eq_true rfl) dL_lengthThrough_4 rfl (fun E7 u7 hx7 => ?_) (fun v7 u7 hp7 => ?_)
  · obtain ⟨hc, hcp⟩ := hx7
    obtain ⟨e1, rfl⟩ := hc
    refine ⟨12, hnd0 htab (by decide) (by decide) (C.words _ u_cl_RL_13) (va_Nw.use rfl (C.nws.1 _ n_ca_java_lang_IndexOutOfBoundsException_java_lang_IndexOutOfBoundsException)), fun qx => ?_⟩
    refine KAstore_n C dL_lengthThrough_12 rfl (by decide) rfl ?_
    refine KIconst C dL_lengthThrough_13 ?_
    exact KH (KIret C rfl rfl (PL.thr e1 ⟨by decide, ⟨by omega, by omega⟩⟩ hcp) (by decide) (by decide) dL_lengthThrough_14)
  · obtain ⟨r, z9, e1, rfl, hcp⟩ := hp7
    refine KSt (st2 := [.int (iI r), .int (iI 0), .ref (q 93)]) rfl ?_
    refine KTop (iI_of (iI r)).symm ?_
    refine KI2l C dL_lengthThrough_7 (inR_of _) ?_
    refine KLast (S := u7) C 1 (hcp.2.1.at0 93 23) (hcp.2.1.ln0 93 1) ⟨by decide, by decide⟩ (by decide) dL_lengthThrough_8 ?_
    refine KGoto C dL_lengthThrough_9 rfl ?_
    refine KIconst C dL_lengthThrough_15 ?_
    exact KH (KIret C rfl rfl (PL.ok e1 hcp) (by decide) (by decide) dL_lengthThrough_16)
theorem u_cw_stops : (.codeWith yL_stops cL_stops 4 (some .int) [(0, 9, 12, 13)] : Cond) ∈ UW := uw 819 (by decide +kernel) (by decide +kernel)
theorem ct_L_stops (l : Launch) (g : GG) (hnt : l.stackTraces = false) (S : Sto) (q : Nat → Nat) (x0 : Int) (z : Sig) (hT : Top S q) (hW : Wf z) (hCR : CR S q (gT g) z) (hx0 : inR x0) (tt : Nat) (htt : tt = gT g) : MetH l g yL_stops cL_stops 4 (some .int) [(0, 9, 12, 13)] 8 1 6 [.ref (q 0), .int (iI x0), .ref (q 93)] S (PL (oSs z x0) S q tt) := by
  refine MetH.of (own := RL) (lv := [(0, .ref (q 0)), (1, .int (iI x0)), (2, .ref (q 93))]) (by decide) rfl (Nat.le_of_ble_eq_true rfl) rfl ?_
  intro pX eX sX mX argsX belowX methX cX C hnc htab
  refine KAload_n C dL_stops_0 rfl 2 rfl ?_
  refine KIconst C dL_stops_1 ?_
  refine KAload_n C dL_stops_2 rfl 0 rfl ?_
  refine KIload_n C dL_stops_3 rfl 1 rfl ?_
  refine KCallVC (As := [.int (iI x0)]) (b := q 0) (st := [.int (iI 0), .ref (q 93)]) C (ct_X5_stops l g hnt S q x0 z hT hW hCR hx0 tt htt) u_ml_RL_70 u_im_yX5_stops u_se_yX5_stops u_in_RX5 u_co_yX5_stops hd_yX5_stops (hT.at0 0 6) (by decide) rfl rfl ⟨Nat.le_of_ble_eq_true rfl, Nat.le_of_ble_eq_true rfl⟩ ⟨Nat.le_of_ble_eq_true rfl, Nat.le_of_ble_eq_true rfl⟩ (Nat.le_of_ble_eq_true rfl) dL_stops_4 rfl (fun E7 u7 hx7 => ?_) (fun v7 u7 hp7 => ?_)
  · obtain ⟨hc, hcp⟩ := hx7
    obtain ⟨e1, rfl⟩ := hc
    refine ⟨12, hnd0 htab (by decide) (by decide) (C.words _ u_cl_RL_13) (va_Nw.use rfl (C.nws.1 _ n_ca_java_lang_IndexOutOfBoundsException_java_lang_IndexOutOfBoundsException)), fun qx => ?_⟩
    refine KAstore_n C dL_stops_12 rfl (by decide) rfl ?_
    refine KIconst C dL_stops_13 ?_
    exact KH (KIret C rfl rfl (PL.thr e1 ⟨by decide, ⟨by omega, by omega⟩⟩ hcp) (by decide) (by decide) dL_stops_14)
  · obtain ⟨r, z9, e1, rfl, hcp⟩ := hp7
    refine KSt (st2 := [.int (iI r), .int (iI 0), .ref (q 93)]) rfl ?_
    refine KTop (iI_of (iI r)).symm ?_
    refine KI2l C dL_stops_7 (inR_of _) ?_
    refine KLast (S := u7) C 1 (hcp.2.1.at0 93 23) (hcp.2.1.ln0 93 1) ⟨by decide, by decide⟩ (by decide) dL_stops_8 ?_
    refine KGoto C dL_stops_9 rfl ?_
    refine KIconst C dL_stops_15 ?_
    exact KH (KIret C rfl rfl (PL.ok e1 hcp) (by decide) (by decide) dL_stops_16)
theorem u_cw_stopAt : (.codeWith yL_stopAt cL_stopAt 5 (some .int) [(0, 10, 13, 13)] : Cond) ∈ UW := uw 826 (by decide +kernel) (by decide +kernel)
theorem ct_L_stopAt (l : Launch) (g : GG) (hnt : l.stackTraces = false) (S : Sto) (q : Nat → Nat) (x0 : Int) (x1 : Int) (z : Sig) (hT : Top S q) (hW : Wf z) (hCR : CR S q (gT g) z) (hx0 : inR x0) (hx1 : inR x1) (tt : Nat) (htt : tt = gT g) : MetH l g yL_stopAt cL_stopAt 5 (some .int) [(0, 10, 13, 13)] 8 2 12 [.ref (q 0), .int (iI x0), .int (iI x1), .ref (q 93)] S (PL (oSa z x0 x1) S q tt) := by
  refine MetH.of (own := RL) (lv := [(0, .ref (q 0)), (1, .int (iI x0)), (2, .int (iI x1)), (3, .ref (q 93))]) (by decide) rfl (Nat.le_of_ble_eq_true rfl) rfl ?_
  intro pX eX sX mX argsX belowX methX cX C hnc htab
  refine KAload_n C dL_stopAt_0 rfl 3 rfl ?_
  refine KIconst C dL_stopAt_1 ?_
  refine KAload_n C dL_stopAt_2 rfl 0 rfl ?_
  refine KIload_n C dL_stopAt_3 rfl 1 rfl ?_
  refine KIload_n C dL_stopAt_4 rfl 2 rfl ?_
  refine KCallVC (As := [.int (iI x0), .int (iI x1)]) (b := q 0) (st := [.int (iI 0), .ref (q 93)]) C (ct_X5_stopAt l g hnt S q x0 x1 z hT hW hCR hx0 hx1 tt htt) u_ml_RL_73 u_im_yX5_stopAt u_se_yX5_stopAt u_in_RX5 u_co_yX5_stopAt hd_yX5_stopAt (hT.at0 0 6) (by decide) rfl rfl ⟨Nat.le_of_ble_eq_true rfl, Nat.le_of_ble_eq_true rfl⟩ ⟨Nat.le_of_ble_eq_true rfl, Nat.le_of_ble_eq_true rfl⟩ (Nat.le_of_ble_eq_true rfl) dL_stopAt_5 rfl (fun E7 u7 hx7 => ?_) (fun v7 u7 hp7 => ?_)
  · obtain ⟨hc, hcp⟩ := hx7
    obtain ⟨e1, rfl⟩ := hc
    refine ⟨13, hnd0 htab (by decide) (by decide) (C.words _ u_cl_RL_13) (va_Nw.use rfl (C.nws.1 _ n_ca_java_lang_IndexOutOfBoundsException_java_lang_IndexOutOfBoundsException)), fun qx => ?_⟩
    refine KAstore C dL_stopAt_13 (by decide) rfl ?_
    refine KIconst C dL_stopAt_15 ?_
    exact KH (KIret C rfl rfl (PL.thr e1 ⟨by decide, ⟨by omega, by omega⟩⟩ hcp) (by decide) (by decide) dL_stopAt_16)
  · obtain ⟨r, z9, e1, rfl, hcp⟩ := hp7
    refine KSt (st2 := [.int (iI r), .int (iI 0), .ref (q 93)]) rfl ?_
    refine KTop (iI_of (iI r)).symm ?_
    refine KI2l C dL_stopAt_8 (inR_of _) ?_
    refine KLast (S := u7) C 1 (hcp.2.1.at0 93 23) (hcp.2.1.ln0 93 1) ⟨by decide, by decide⟩ (by decide) dL_stopAt_9 ?_
    refine KGoto C dL_stopAt_10 rfl ?_
    refine KIconst C dL_stopAt_17 ?_
    exact KH (KIret C rfl rfl (PL.ok e1 hcp) (by decide) (by decide) dL_stopAt_18)
theorem u_cw_inAisle : (.codeWith yL_inAisle cL_inAisle 4 (some .int) [(0, 9, 12, 13)] : Cond) ∈ UW := uw 834 (by decide +kernel) (by decide +kernel)
theorem ct_L_inAisle (l : Launch) (g : GG) (hnt : l.stackTraces = false) (S : Sto) (q : Nat → Nat) (x0 : Int) (z : Sig) (hT : Top S q) (hW : Wf z) (hCR : CR S q (gT g) z) (hx0 : inR x0) (tt : Nat) (htt : tt = gT g) : MetH l g yL_inAisle cL_inAisle 4 (some .int) [(0, 9, 12, 13)] 8 1 6 [.ref (q 0), .int (iI x0), .ref (q 93)] S (PL (oIa z x0) S q tt) := by
  refine MetH.of (own := RL) (lv := [(0, .ref (q 0)), (1, .int (iI x0)), (2, .ref (q 93))]) (by decide) rfl (Nat.le_of_ble_eq_true rfl) rfl ?_
  intro pX eX sX mX argsX belowX methX cX C hnc htab
  refine KAload_n C dL_inAisle_0 rfl 2 rfl ?_
  refine KIconst C dL_inAisle_1 ?_
  refine KAload_n C dL_inAisle_2 rfl 0 rfl ?_
  refine KIload_n C dL_inAisle_3 rfl 1 rfl ?_
  refine KCallVC (As := [.int (iI x0)]) (b := q 0) (st := [.int (iI 0), .ref (q 93)]) C (ct_X5_inAisle l g hnt S q x0 z hT hW hCR hx0 tt htt) u_ml_RL_76 u_im_yX5_inAisle u_se_yX5_inAisle u_in_RX5 u_co_yX5_inAisle hd_yX5_inAisle (hT.at0 0 6) (by decide) rfl rfl ⟨Nat.le_of_ble_eq_true rfl, Nat.le_of_ble_eq_true rfl⟩ ⟨Nat.le_of_ble_eq_true rfl, Nat.le_of_ble_eq_true rfl⟩ (Nat.le_of_ble_eq_true rfl) dL_inAisle_4 rfl (fun E7 u7 hx7 => ?_) (fun v7 u7 hp7 => ?_)
  · obtain ⟨hc, hcp⟩ := hx7
    obtain ⟨e1, rfl⟩ := hc
    refine ⟨12, hnd0 htab (by decide) (by decide) (C.words _ u_cl_RL_13) (va_Nw.use rfl (C.nws.1 _ n_ca_java_lang_IndexOutOfBoundsException_java_lang_IndexOutOfBoundsException)), fun qx => ?_⟩
    refine KAstore_n C dL_inAisle_12 rfl (by decide) rfl ?_
    refine KIconst C dL_inAisle_13 ?_
    exact KH (KIret C rfl rfl (PL.thr e1 ⟨by decide, ⟨by omega, by omega⟩⟩ hcp) (by decide) (by decide) dL_inAisle_14)
  · obtain ⟨r, z9, e1, rfl, hcp⟩ := hp7
    refine KSt (st2 := [.int (iI r), .int (iI 0), .ref (q 93)]) rfl ?_
    refine KTop (iI_of (iI r)).symm ?_
    refine KI2l C dL_inAisle_7 (inR_of _) ?_
    refine KLast (S := u7) C 1 (hcp.2.1.at0 93 23) (hcp.2.1.ln0 93 1) ⟨by decide, by decide⟩ (by decide) dL_inAisle_8 ?_
    refine KGoto C dL_inAisle_9 rfl ?_
    refine KIconst C dL_inAisle_15 ?_
    exact KH (KIret C rfl rfl (PL.ok e1 hcp) (by decide) (by decide) dL_inAisle_16)
