/-! ===== calls, one by one ===== -/
theorem u_cw_calls : (.codeWith yL_calls cL_calls 6 (some .int) [(0, 103, 104, 40), (0, 103, 109, 42), (0, 103, 114, 44)] : Cond) ∈ UW := uw 373 (by decide +kernel) (by decide +kernel)
theorem ct_L_calls_put (l : Launch) (g : GG) (hnt : l.stackTraces = false) (S : Sto) (q : Nat → Nat) (x0 x1 x2 : Int) (z : Sig) (hT : Top S q) (hW : Wf z) (hCR : CR S q (gT g) z) (hx0 : inR x0) (hx1 : inR x1) (hx2 : inR x2) (tt : Nat) (htt : tt = gT g) : MetH l g yL_calls cL_calls 6 (some .int) [(0, 103, 104, 40), (0, 103, 109, 42), (0, 103, 114, 44)] 8 3 18 [.ref (q 0), .int (iI 0), .int (iI x0), .int (iI x1), .int (iI x2)] S (PK (oPut z x0 x1 x2) m42 S q tt) := by
  refine MetH.of (own := RL) (lv := [(0, .ref (q 0)), (1, .int (iI 0)), (2, .int (iI x0)), (3, .int (iI x1)), (4, .int (iI x2))]) (by decide) rfl (Nat.le_of_ble_eq_true rfl) rfl ?_
  intro pX eX sX mX argsX belowX methX cX C hnc htab
  refine KIload_n C dL_calls_0 rfl 1 rfl ?_
  refine KIf_ne (tgt := 15) C dL_calls_1 (by decide) ⟨by omega, by omega⟩ (fun h => absurd h (by decide)) (fun _ => ?_)
  refine KAload_n C dL_calls_4 rfl 0 rfl ?_
  refine KIload_n C dL_calls_5 rfl 2 rfl ?_
  refine KIload_n C dL_calls_6 rfl 3 rfl ?_
  refine KIload C dL_calls_7 4 rfl ?_
  refine KCallVC (As := [.int (iI x0), .int (iI x1), .int (iI x2)]) (b := q 0) (st := []) C (ct_X5_put l g hnt S q x0 x1 x2 z hT hW hCR hx0 hx1 hx2 tt htt) u_ml_RL_10 u_im_yX5_put u_se_yX5_put u_in_RX5 u_co_yX5_put hd_yX5_put (hT.at0 0 6) (by decide) rfl rfl ⟨Nat.le_of_ble_eq_true rfl, Nat.le_of_ble_eq_true rfl⟩ ⟨Nat.le_of_ble_eq_true rfl, Nat.le_of_ble_eq_true rfl⟩ (Nat.le_of_ble_eq_true rfl) dL_calls_9 rfl (fun E7 u7 hx7 => ?_) (fun v7 u7 hp7 => ?_)
  · obtain ⟨hc, hcp⟩ := hx7
    rcases hc with ⟨e1, rfl⟩ | ⟨e1, rfl⟩
    · refine ⟨104, hnd0 htab (by decide) (by decide) (C.words _ u_cl_RL_40) (va_Nw.use rfl (C.nws.1 _ n_ca_java_lang_IndexOutOfBoundsException_java_lang_IndexOutOfBoundsException)), fun qx => ?_⟩
      refine KAstore C dL_calls_104 (by decide) rfl ?_
      refine KBipush C dL_calls_106 (by decide) ?_
      exact KH (KIret C rfl rfl (PK.mkx e1 (by decide) (by decide) hcp) (by decide) (by decide) dL_calls_108)
    · refine ⟨114, hnd2 htab (by decide) (by decide) (by decide) (C.words _ u_cl_RL_40) hnc.1 (by decide) (C.words _ u_cl_RL_42) hnc.2.2 (C.words _ u_cl_RL_44) (va_Nw.use rfl (C.nws.1 _ n_ca_java_lang_IllegalStateException_java_lang_IllegalStateException)), fun qx => ?_⟩
      refine KAstore C dL_calls_114 (by decide) rfl ?_
      refine KBipush C dL_calls_116 (by decide) ?_
      exact KH (KIret C rfl rfl (PK.mkx e1 (by decide) (by decide) hcp) (by decide) (by decide) dL_calls_118)
  · obtain ⟨r, z9, e1, rfl, hcp⟩ := hp7
    refine KSt (st2 := [.int (iI r)]) rfl ?_
    refine KGoto C dL_calls_12 rfl ?_
    exact KH (KIret C rfl rfl (PK.mk0 e1 hcp) (by decide) (by decide) dL_calls_103)
theorem ct_L_calls_layOut (l : Launch) (g : GG) (hnt : l.stackTraces = false) (S : Sto) (q : Nat → Nat) (x0 x1 x2 : Int) (z : Sig) (hT : Top S q) (hW : Wf z) (hCR : CR S q (gT g) z) (tt : Nat) (htt : tt = gT g) : MetH l g yL_calls cL_calls 6 (some .int) [(0, 103, 104, 40), (0, 103, 109, 42), (0, 103, 114, 44)] 8 1 6 [.ref (q 0), .int (iI 1), .int (iI x0), .int (iI x1), .int (iI x2)] S (PK (oLay z) m33 S q tt) := by
  refine MetH.of (own := RL) (lv := [(0, .ref (q 0)), (1, .int (iI 1)), (2, .int (iI x0)), (3, .int (iI x1)), (4, .int (iI x2))]) (by decide) rfl (Nat.le_of_ble_eq_true rfl) rfl ?_
  intro pX eX sX mX argsX belowX methX cX C hnc htab
  refine KIload_n C dL_calls_0 rfl 1 rfl ?_
  refine KIf_ne (tgt := 15) C dL_calls_1 (by decide) ⟨by omega, by omega⟩ (fun _ => ?_) (fun h => absurd h (by decide))
  refine KIload_n C dL_calls_15 rfl 1 rfl ?_
  refine KIconst C dL_calls_16 ?_
  refine KIcmp_ne (tgt := 27) C dL_calls_17 (by decide) ⟨by omega, by omega⟩ ⟨by omega, by omega⟩ (fun h => absurd h (by decide)) (fun _ => ?_)
  refine KAload_n C dL_calls_20 rfl 0 rfl ?_
  refine KCallVC (As := []) (b := q 0) (st := []) C (ct_X5_layOut l g hnt S q z hT hW hCR tt htt) u_ml_RL_16 u_im_yX5_layOut u_se_yX5_layOut u_in_RX5 u_co_yX5_layOut hd_yX5_layOut (hT.at0 0 6) (by decide) rfl rfl ⟨Nat.le_of_ble_eq_true rfl, Nat.le_of_ble_eq_true rfl⟩ ⟨Nat.le_of_ble_eq_true rfl, Nat.le_of_ble_eq_true rfl⟩ (Nat.le_of_ble_eq_true rfl) dL_calls_21 rfl (fun E7 u7 hx7 => ?_) (fun v7 u7 hp7 => ?_)
  · obtain ⟨hc, hcp⟩ := hx7
    obtain ⟨e1, rfl⟩ := hc
    refine ⟨114, hnd2 htab (by decide) (by decide) (by decide) (C.words _ u_cl_RL_40) hnc.1 (by decide) (C.words _ u_cl_RL_42) hnc.2.2 (C.words _ u_cl_RL_44) (va_Nw.use rfl (C.nws.1 _ n_ca_java_lang_IllegalStateException_java_lang_IllegalStateException)), fun qx => ?_⟩
    refine KAstore C dL_calls_114 (by decide) rfl ?_
    refine KBipush C dL_calls_116 (by decide) ?_
    exact KH (KIret C rfl rfl (PK.mkx e1 (by decide) (by decide) hcp) (by decide) (by decide) dL_calls_118)
  · obtain ⟨r, z9, e1, rfl, hcp⟩ := hp7
    refine KSt (st2 := [.int (iI r)]) rfl ?_
    refine KGoto C dL_calls_24 rfl ?_
    exact KH (KIret C rfl rfl (PK.mk0 e1 hcp) (by decide) (by decide) dL_calls_103)
theorem ct_L_calls_line (l : Launch) (g : GG) (hnt : l.stackTraces = false) (S : Sto) (q : Nat → Nat) (x0 x1 x2 : Int) (z : Sig) (hT : Top S q) (hW : Wf z) (hCR : CR S q (gT g) z) (hx0 : inR x0) (hx1 : inR x1) (hx2 : inR x2) (tt : Nat) (htt : tt = gT g) : MetH l g yL_calls cL_calls 6 (some .int) [(0, 103, 104, 40), (0, 103, 109, 42), (0, 103, 114, 44)] 8 4 24 [.ref (q 0), .int (iI 2), .int (iI x0), .int (iI x1), .int (iI x2)] S (PK (oLin z x0 x1 x2) m423 S q tt) := by
  refine MetH.of (own := RL) (lv := [(0, .ref (q 0)), (1, .int (iI 2)), (2, .int (iI x0)), (3, .int (iI x1)), (4, .int (iI x2))]) (by decide) rfl (Nat.le_of_ble_eq_true rfl) rfl ?_
  intro pX eX sX mX argsX belowX methX cX C hnc htab
  refine KIload_n C dL_calls_0 rfl 1 rfl ?_
  refine KIf_ne (tgt := 15) C dL_calls_1 (by decide) ⟨by omega, by omega⟩ (fun _ => ?_) (fun h => absurd h (by decide))
  refine KIload_n C dL_calls_15 rfl 1 rfl ?_
  refine KIconst C dL_calls_16 ?_
  refine KIcmp_ne (tgt := 27) C dL_calls_17 (by decide) ⟨by omega, by omega⟩ ⟨by omega, by omega⟩ (fun _ => ?_) (fun h => absurd h (by decide))
  refine KIload_n C dL_calls_27 rfl 1 rfl ?_
  refine KIconst C dL_calls_28 ?_
  refine KIcmp_ne (tgt := 43) C dL_calls_29 (by decide) ⟨by omega, by omega⟩ ⟨by omega, by omega⟩ (fun h => absurd h (by decide)) (fun _ => ?_)
  refine KAload_n C dL_calls_32 rfl 0 rfl ?_
  refine KIload_n C dL_calls_33 rfl 2 rfl ?_
  refine KIload_n C dL_calls_34 rfl 3 rfl ?_
  refine KIload C dL_calls_35 4 rfl ?_
  refine KCallVC (As := [.int (iI x0), .int (iI x1), .int (iI x2)]) (b := q 0) (st := []) C (ct_X5_line l g hnt S q x0 x1 x2 z hT hW hCR hx0 hx1 hx2 tt htt) u_ml_RL_20 u_im_yX5_line u_se_yX5_line u_in_RX5 u_co_yX5_line hd_yX5_line (hT.at0 0 6) (by decide) rfl rfl ⟨Nat.le_of_ble_eq_true rfl, Nat.le_of_ble_eq_true rfl⟩ ⟨Nat.le_of_ble_eq_true rfl, Nat.le_of_ble_eq_true rfl⟩ (Nat.le_of_ble_eq_true rfl) dL_calls_37 rfl (fun E7 u7 hx7 => ?_) (fun v7 u7 hp7 => ?_)
  · obtain ⟨hc, hcp⟩ := hx7
    rcases hc with ⟨e1, rfl⟩ | ⟨e1, rfl⟩ | ⟨e1, rfl⟩
    · refine ⟨104, hnd0 htab (by decide) (by decide) (C.words _ u_cl_RL_40) (va_Nw.use rfl (C.nws.1 _ n_ca_java_lang_IndexOutOfBoundsException_java_lang_IndexOutOfBoundsException)), fun qx => ?_⟩
      refine KAstore C dL_calls_104 (by decide) rfl ?_
      refine KBipush C dL_calls_106 (by decide) ?_
      exact KH (KIret C rfl rfl (PK.mkx e1 (by decide) (by decide) hcp) (by decide) (by decide) dL_calls_108)
    · refine ⟨109, hnd1 htab (by decide) (by decide) (by decide) (C.words _ u_cl_RL_40) hnc.2.1 (C.words _ u_cl_RL_42) (va_Nw.use rfl (C.nws.1 _ n_ca_java_lang_IllegalArgumentException_java_lang_IllegalArgumentException)), fun qx => ?_⟩
      refine KAstore C dL_calls_109 (by decide) rfl ?_
      refine KBipush C dL_calls_111 (by decide) ?_
      exact KH (KIret C rfl rfl (PK.mkx e1 (by decide) (by decide) hcp) (by decide) (by decide) dL_calls_113)
    · refine ⟨114, hnd2 htab (by decide) (by decide) (by decide) (C.words _ u_cl_RL_40) hnc.1 (by decide) (C.words _ u_cl_RL_42) hnc.2.2 (C.words _ u_cl_RL_44) (va_Nw.use rfl (C.nws.1 _ n_ca_java_lang_IllegalStateException_java_lang_IllegalStateException)), fun qx => ?_⟩
      refine KAstore C dL_calls_114 (by decide) rfl ?_
      refine KBipush C dL_calls_116 (by decide) ?_
      exact KH (KIret C rfl rfl (PK.mkx e1 (by decide) (by decide) hcp) (by decide) (by decide) dL_calls_118)
  · obtain ⟨r, z9, e1, rfl, hcp⟩ := hp7
    refine KSt (st2 := [.int (iI r)]) rfl ?_
    refine KGoto C dL_calls_40 rfl ?_
    exact KH (KIret C rfl rfl (PK.mk0 e1 hcp) (by decide) (by decide) dL_calls_103)
theorem ct_L_calls_setCapacity (l : Launch) (g : GG) (hnt : l.stackTraces = false) (S : Sto) (q : Nat → Nat) (x0 x1 x2 : Int) (z : Sig) (hT : Top S q) (hW : Wf z) (hCR : CR S q (gT g) z) (hx0 : inR x0) (tt : Nat) (htt : tt = gT g) : MetH l g yL_calls cL_calls 6 (some .int) [(0, 103, 104, 40), (0, 103, 109, 42), (0, 103, 114, 44)] 8 2 12 [.ref (q 0), .int (iI 3), .int (iI x0), .int (iI x1), .int (iI x2)] S (PK (oCap z x0) m23 S q tt) := by
  refine MetH.of (own := RL) (lv := [(0, .ref (q 0)), (1, .int (iI 3)), (2, .int (iI x0)), (3, .int (iI x1)), (4, .int (iI x2))]) (by decide) rfl (Nat.le_of_ble_eq_true rfl) rfl ?_
  intro pX eX sX mX argsX belowX methX cX C hnc htab
  refine KIload_n C dL_calls_0 rfl 1 rfl ?_
  refine KIf_ne (tgt := 15) C dL_calls_1 (by decide) ⟨by omega, by omega⟩ (fun _ => ?_) (fun h => absurd h (by decide))
  refine KIload_n C dL_calls_15 rfl 1 rfl ?_
  refine KIconst C dL_calls_16 ?_
  refine KIcmp_ne (tgt := 27) C dL_calls_17 (by decide) ⟨by omega, by omega⟩ ⟨by omega, by omega⟩ (fun _ => ?_) (fun h => absurd h (by decide))
  refine KIload_n C dL_calls_27 rfl 1 rfl ?_
  refine KIconst C dL_calls_28 ?_
  refine KIcmp_ne (tgt := 43) C dL_calls_29 (by decide) ⟨by omega, by omega⟩ ⟨by omega, by omega⟩ (fun _ => ?_) (fun h => absurd h (by decide))
  refine KIload_n C dL_calls_43 rfl 1 rfl ?_
  refine KIconst C dL_calls_44 ?_
  refine KIcmp_ne (tgt := 56) C dL_calls_45 (by decide) ⟨by omega, by omega⟩ ⟨by omega, by omega⟩ (fun h => absurd h (by decide)) (fun _ => ?_)
  refine KAload_n C dL_calls_48 rfl 0 rfl ?_
  refine KIload_n C dL_calls_49 rfl 2 rfl ?_
  refine KCallVC (As := [.int (iI x0)]) (b := q 0) (st := []) C (ct_X5_setCapacity l g hnt S q x0 z hT hW hCR hx0 tt htt) u_ml_RL_23 u_im_yX5_setCapacity u_se_yX5_setCapacity u_in_RX5 u_co_yX5_setCapacity hd_yX5_setCapacity (hT.at0 0 6) (by decide) rfl rfl ⟨Nat.le_of_ble_eq_true rfl, Nat.le_of_ble_eq_true rfl⟩ ⟨Nat.le_of_ble_eq_true rfl, Nat.le_of_ble_eq_true rfl⟩ (Nat.le_of_ble_eq_true rfl) dL_calls_50 rfl (fun E7 u7 hx7 => ?_) (fun v7 u7 hp7 => ?_)
  · obtain ⟨hc, hcp⟩ := hx7
    rcases hc with ⟨e1, rfl⟩ | ⟨e1, rfl⟩
    · refine ⟨109, hnd1 htab (by decide) (by decide) (by decide) (C.words _ u_cl_RL_40) hnc.2.1 (C.words _ u_cl_RL_42) (va_Nw.use rfl (C.nws.1 _ n_ca_java_lang_IllegalArgumentException_java_lang_IllegalArgumentException)), fun qx => ?_⟩
      refine KAstore C dL_calls_109 (by decide) rfl ?_
      refine KBipush C dL_calls_111 (by decide) ?_
      exact KH (KIret C rfl rfl (PK.mkx e1 (by decide) (by decide) hcp) (by decide) (by decide) dL_calls_113)
    · refine ⟨114, hnd2 htab (by decide) (by decide) (by decide) (C.words _ u_cl_RL_40) hnc.1 (by decide) (C.words _ u_cl_RL_42) hnc.2.2 (C.words _ u_cl_RL_44) (va_Nw.use rfl (C.nws.1 _ n_ca_java_lang_IllegalStateException_java_lang_IllegalStateException)), fun qx => ?_⟩
      refine KAstore C dL_calls_114 (by decide) rfl ?_
      refine KBipush C dL_calls_116 (by decide) ?_
      exact KH (KIret C rfl rfl (PK.mkx e1 (by decide) (by decide) hcp) (by decide) (by decide) dL_calls_118)
  · obtain ⟨r, z9, e1, rfl, hcp⟩ := hp7
    refine KSt (st2 := [.int (iI r)]) rfl ?_
    refine KGoto C dL_calls_53 rfl ?_
    exact KH (KIret C rfl rfl (PK.mk0 e1 hcp) (by decide) (by decide) dL_calls_103)
theorem ct_L_calls_planWave (l : Launch) (g : GG) (hnt : l.stackTraces = false) (S : Sto) (q : Nat → Nat) (x0 x1 x2 : Int) (z : Sig) (hT : Top S q) (hW : Wf z) (hCR : CR S q (gT g) z) (hx0 : inR x0) (tt : Nat) (htt : tt = gT g) : MetH l g yL_calls cL_calls 6 (some .int) [(0, 103, 104, 40), (0, 103, 109, 42), (0, 103, 114, 44)] 10 161 3006 [.ref (q 0), .int (iI 4), .int (iI x0), .int (iI x1), .int (iI x2)] S (PK (oPw z x0) m23 S q tt) := by
  refine MetH.of (own := RL) (lv := [(0, .ref (q 0)), (1, .int (iI 4)), (2, .int (iI x0)), (3, .int (iI x1)), (4, .int (iI x2))]) (by decide) rfl (Nat.le_of_ble_eq_true rfl) rfl ?_
  intro pX eX sX mX argsX belowX methX cX C hnc htab
  refine KIload_n C dL_calls_0 rfl 1 rfl ?_
  refine KIf_ne (tgt := 15) C dL_calls_1 (by decide) ⟨by omega, by omega⟩ (fun _ => ?_) (fun h => absurd h (by decide))
  refine KIload_n C dL_calls_15 rfl 1 rfl ?_
  refine KIconst C dL_calls_16 ?_
  refine KIcmp_ne (tgt := 27) C dL_calls_17 (by decide) ⟨by omega, by omega⟩ ⟨by omega, by omega⟩ (fun _ => ?_) (fun h => absurd h (by decide))
  refine KIload_n C dL_calls_27 rfl 1 rfl ?_
  refine KIconst C dL_calls_28 ?_
  refine KIcmp_ne (tgt := 43) C dL_calls_29 (by decide) ⟨by omega, by omega⟩ ⟨by omega, by omega⟩ (fun _ => ?_) (fun h => absurd h (by decide))
  refine KIload_n C dL_calls_43 rfl 1 rfl ?_
  refine KIconst C dL_calls_44 ?_
  refine KIcmp_ne (tgt := 56) C dL_calls_45 (by decide) ⟨by omega, by omega⟩ ⟨by omega, by omega⟩ (fun _ => ?_) (fun h => absurd h (by decide))
  refine KIload_n C dL_calls_56 rfl 1 rfl ?_
  refine KIconst C dL_calls_57 ?_
  refine KIcmp_ne (tgt := 69) C dL_calls_58 (by decide) ⟨by omega, by omega⟩ ⟨by omega, by omega⟩ (fun h => absurd h (by decide)) (fun _ => ?_)
  refine KAload_n C dL_calls_61 rfl 0 rfl ?_
  refine KIload_n C dL_calls_62 rfl 2 rfl ?_
  refine KCallVC (As := [.int (iI x0)]) (b := q 0) (st := []) C (ct_X5_planWave l g hnt S q x0 z hT hW hCR hx0 tt htt) u_ml_RL_27 u_im_yX5_planWave u_se_yX5_planWave u_in_RX5 u_co_yX5_planWave hd_yX5_planWave (hT.at0 0 6) (by decide) rfl rfl ⟨Nat.le_of_ble_eq_true rfl, Nat.le_of_ble_eq_true rfl⟩ ⟨Nat.le_of_ble_eq_true rfl, Nat.le_of_ble_eq_true rfl⟩ (Nat.le_of_ble_eq_true rfl) dL_calls_63 rfl (fun E7 u7 hx7 => ?_) (fun v7 u7 hp7 => ?_)
  · obtain ⟨hc, hcp⟩ := hx7
    rcases hc with ⟨e1, rfl⟩ | ⟨e1, rfl⟩
    · refine ⟨109, hnd1 htab (by decide) (by decide) (by decide) (C.words _ u_cl_RL_40) hnc.2.1 (C.words _ u_cl_RL_42) (va_Nw.use rfl (C.nws.1 _ n_ca_java_lang_IllegalArgumentException_java_lang_IllegalArgumentException)), fun qx => ?_⟩
      refine KAstore C dL_calls_109 (by decide) rfl ?_
      refine KBipush C dL_calls_111 (by decide) ?_
      exact KH (KIret C rfl rfl (PK.mkx e1 (by decide) (by decide) hcp) (by decide) (by decide) dL_calls_113)
    · refine ⟨114, hnd2 htab (by decide) (by decide) (by decide) (C.words _ u_cl_RL_40) hnc.1 (by decide) (C.words _ u_cl_RL_42) hnc.2.2 (C.words _ u_cl_RL_44) (va_Nw.use rfl (C.nws.1 _ n_ca_java_lang_IllegalStateException_java_lang_IllegalStateException)), fun qx => ?_⟩
      refine KAstore C dL_calls_114 (by decide) rfl ?_
      refine KBipush C dL_calls_116 (by decide) ?_
      exact KH (KIret C rfl rfl (PK.mkx e1 (by decide) (by decide) hcp) (by decide) (by decide) dL_calls_118)
  · obtain ⟨r, z9, e1, rfl, hcp⟩ := hp7
    refine KSt (st2 := [.int (iI r)]) rfl ?_
    refine KGoto C dL_calls_66 rfl ?_
    exact KH (KIret C rfl rfl (PK.mk0 e1 hcp) (by decide) (by decide) dL_calls_103)
theorem ct_L_calls_pick (l : Launch) (g : GG) (hnt : l.stackTraces = false) (S : Sto) (q : Nat → Nat) (x0 x1 x2 : Int) (z : Sig) (hT : Top S q) (hW : Wf z) (hCR : CR S q (gT g) z) (hx0 : inR x0) (tt : Nat) (htt : tt = gT g) : MetH l g yL_calls cL_calls 6 (some .int) [(0, 103, 104, 40), (0, 103, 109, 42), (0, 103, 114, 44)] 8 1 6 [.ref (q 0), .int (iI 5), .int (iI x0), .int (iI x1), .int (iI x2)] S (PK (oPk z x0) m44 S q tt) := by
  refine MetH.of (own := RL) (lv := [(0, .ref (q 0)), (1, .int (iI 5)), (2, .int (iI x0)), (3, .int (iI x1)), (4, .int (iI x2))]) (by decide) rfl (Nat.le_of_ble_eq_true rfl) rfl ?_
  intro pX eX sX mX argsX belowX methX cX C hnc htab
  refine KIload_n C dL_calls_0 rfl 1 rfl ?_
  refine KIf_ne (tgt := 15) C dL_calls_1 (by decide) ⟨by omega, by omega⟩ (fun _ => ?_) (fun h => absurd h (by decide))
  refine KIload_n C dL_calls_15 rfl 1 rfl ?_
  refine KIconst C dL_calls_16 ?_
  refine KIcmp_ne (tgt := 27) C dL_calls_17 (by decide) ⟨by omega, by omega⟩ ⟨by omega, by omega⟩ (fun _ => ?_) (fun h => absurd h (by decide))
  refine KIload_n C dL_calls_27 rfl 1 rfl ?_
  refine KIconst C dL_calls_28 ?_
  refine KIcmp_ne (tgt := 43) C dL_calls_29 (by decide) ⟨by omega, by omega⟩ ⟨by omega, by omega⟩ (fun _ => ?_) (fun h => absurd h (by decide))
  refine KIload_n C dL_calls_43 rfl 1 rfl ?_
  refine KIconst C dL_calls_44 ?_
  refine KIcmp_ne (tgt := 56) C dL_calls_45 (by decide) ⟨by omega, by omega⟩ ⟨by omega, by omega⟩ (fun _ => ?_) (fun h => absurd h (by decide))
  refine KIload_n C dL_calls_56 rfl 1 rfl ?_
  refine KIconst C dL_calls_57 ?_
  refine KIcmp_ne (tgt := 69) C dL_calls_58 (by decide) ⟨by omega, by omega⟩ ⟨by omega, by omega⟩ (fun _ => ?_) (fun h => absurd h (by decide))
  refine KIload_n C dL_calls_69 rfl 1 rfl ?_
  refine KIconst C dL_calls_70 ?_
  refine KIcmp_ne (tgt := 82) C dL_calls_71 (by decide) ⟨by omega, by omega⟩ ⟨by omega, by omega⟩ (fun h => absurd h (by decide)) (fun _ => ?_)
  refine KAload_n C dL_calls_74 rfl 0 rfl ?_
  refine KIload_n C dL_calls_75 rfl 2 rfl ?_
  refine KCallVC (As := [.int (iI x0)]) (b := q 0) (st := []) C (ct_X5_pick l g hnt S q x0 z hT hW hCR hx0 tt htt) u_ml_RL_30 u_im_yX5_pick u_se_yX5_pick u_in_RX5 u_co_yX5_pick hd_yX5_pick (hT.at0 0 6) (by decide) rfl rfl ⟨Nat.le_of_ble_eq_true rfl, Nat.le_of_ble_eq_true rfl⟩ ⟨Nat.le_of_ble_eq_true rfl, Nat.le_of_ble_eq_true rfl⟩ (Nat.le_of_ble_eq_true rfl) dL_calls_76 rfl (fun E7 u7 hx7 => ?_) (fun v7 u7 hp7 => ?_)
  · obtain ⟨hc, hcp⟩ := hx7
    obtain ⟨e1, rfl⟩ := hc
    refine ⟨104, hnd0 htab (by decide) (by decide) (C.words _ u_cl_RL_40) (va_Nw.use rfl (C.nws.1 _ n_ca_java_lang_IndexOutOfBoundsException_java_lang_IndexOutOfBoundsException)), fun qx => ?_⟩
    refine KAstore C dL_calls_104 (by decide) rfl ?_
    refine KBipush C dL_calls_106 (by decide) ?_
    exact KH (KIret C rfl rfl (PK.mkx e1 (by decide) (by decide) hcp) (by decide) (by decide) dL_calls_108)
  · obtain ⟨r, z9, e1, rfl, hcp⟩ := hp7
    refine KSt (st2 := [.int (iI r)]) rfl ?_
    refine KGoto C dL_calls_79 rfl ?_
    exact KH (KIret C rfl rfl (PK.mk0 e1 hcp) (by decide) (by decide) dL_calls_103)
theorem ct_L_calls_distance (l : Launch) (g : GG) (hnt : l.stackTraces = false) (S : Sto) (q : Nat → Nat) (x0 x1 x2 : Int) (z : Sig) (hT : Top S q) (hW : Wf z) (hCR : CR S q (gT g) z) (hx0 : inR x0) (hx1 : inR x1) (tt : Nat) (htt : tt = gT g) : MetH l g yL_calls cL_calls 6 (some .int) [(0, 103, 104, 40), (0, 103, 109, 42), (0, 103, 114, 44)] 8 3 18 [.ref (q 0), .int (iI 6), .int (iI x0), .int (iI x1), .int (iI x2)] S (PK (oDi z x0 x1) m42 S q tt) := by
  refine MetH.of (own := RL) (lv := [(0, .ref (q 0)), (1, .int (iI 6)), (2, .int (iI x0)), (3, .int (iI x1)), (4, .int (iI x2))]) (by decide) rfl (Nat.le_of_ble_eq_true rfl) rfl ?_
  intro pX eX sX mX argsX belowX methX cX C hnc htab
  refine KIload_n C dL_calls_0 rfl 1 rfl ?_
  refine KIf_ne (tgt := 15) C dL_calls_1 (by decide) ⟨by omega, by omega⟩ (fun _ => ?_) (fun h => absurd h (by decide))
  refine KIload_n C dL_calls_15 rfl 1 rfl ?_
  refine KIconst C dL_calls_16 ?_
  refine KIcmp_ne (tgt := 27) C dL_calls_17 (by decide) ⟨by omega, by omega⟩ ⟨by omega, by omega⟩ (fun _ => ?_) (fun h => absurd h (by decide))
  refine KIload_n C dL_calls_27 rfl 1 rfl ?_
  refine KIconst C dL_calls_28 ?_
  refine KIcmp_ne (tgt := 43) C dL_calls_29 (by decide) ⟨by omega, by omega⟩ ⟨by omega, by omega⟩ (fun _ => ?_) (fun h => absurd h (by decide))
  refine KIload_n C dL_calls_43 rfl 1 rfl ?_
  refine KIconst C dL_calls_44 ?_
  refine KIcmp_ne (tgt := 56) C dL_calls_45 (by decide) ⟨by omega, by omega⟩ ⟨by omega, by omega⟩ (fun _ => ?_) (fun h => absurd h (by decide))
  refine KIload_n C dL_calls_56 rfl 1 rfl ?_
  refine KIconst C dL_calls_57 ?_
  refine KIcmp_ne (tgt := 69) C dL_calls_58 (by decide) ⟨by omega, by omega⟩ ⟨by omega, by omega⟩ (fun _ => ?_) (fun h => absurd h (by decide))
  refine KIload_n C dL_calls_69 rfl 1 rfl ?_
  refine KIconst C dL_calls_70 ?_
  refine KIcmp_ne (tgt := 82) C dL_calls_71 (by decide) ⟨by omega, by omega⟩ ⟨by omega, by omega⟩ (fun _ => ?_) (fun h => absurd h (by decide))
  refine KIload_n C dL_calls_82 rfl 1 rfl ?_
  refine KBipush C dL_calls_83 (by decide) ?_
  refine KIcmp_ne (tgt := 97) C dL_calls_85 (by decide) ⟨by omega, by omega⟩ ⟨by omega, by omega⟩ (fun h => absurd h (by decide)) (fun _ => ?_)
  refine KAload_n C dL_calls_88 rfl 0 rfl ?_
  refine KIload_n C dL_calls_89 rfl 2 rfl ?_
  refine KIload_n C dL_calls_90 rfl 3 rfl ?_
  refine KCallVC (As := [.int (iI x0), .int (iI x1)]) (b := q 0) (st := []) C (ct_X5_distance l g hnt S q x0 x1 z hT hW hCR hx0 hx1 tt htt) u_ml_RL_33 u_im_yX5_distance u_se_yX5_distance u_in_RX5 u_co_yX5_distance hd_yX5_distance (hT.at0 0 6) (by decide) rfl rfl ⟨Nat.le_of_ble_eq_true rfl, Nat.le_of_ble_eq_true rfl⟩ ⟨Nat.le_of_ble_eq_true rfl, Nat.le_of_ble_eq_true rfl⟩ (Nat.le_of_ble_eq_true rfl) dL_calls_91 rfl (fun E7 u7 hx7 => ?_) (fun v7 u7 hp7 => ?_)
  · obtain ⟨hc, hcp⟩ := hx7
    rcases hc with ⟨e1, rfl⟩ | ⟨e1, rfl⟩
    · refine ⟨104, hnd0 htab (by decide) (by decide) (C.words _ u_cl_RL_40) (va_Nw.use rfl (C.nws.1 _ n_ca_java_lang_IndexOutOfBoundsException_java_lang_IndexOutOfBoundsException)), fun qx => ?_⟩
      refine KAstore C dL_calls_104 (by decide) rfl ?_
      refine KBipush C dL_calls_106 (by decide) ?_
      exact KH (KIret C rfl rfl (PK.mkx e1 (by decide) (by decide) hcp) (by decide) (by decide) dL_calls_108)
    · refine ⟨114, hnd2 htab (by decide) (by decide) (by decide) (C.words _ u_cl_RL_40) hnc.1 (by decide) (C.words _ u_cl_RL_42) hnc.2.2 (C.words _ u_cl_RL_44) (va_Nw.use rfl (C.nws.1 _ n_ca_java_lang_IllegalStateException_java_lang_IllegalStateException)), fun qx => ?_⟩
      refine KAstore C dL_calls_114 (by decide) rfl ?_
      refine KBipush C dL_calls_116 (by decide) ?_
      exact KH (KIret C rfl rfl (PK.mkx e1 (by decide) (by decide) hcp) (by decide) (by decide) dL_calls_118)
  · obtain ⟨r, z9, e1, rfl, hcp⟩ := hp7
    refine KSt (st2 := [.int (iI r)]) rfl ?_
    refine KGoto C dL_calls_94 rfl ?_
    exact KH (KIret C rfl rfl (PK.mk0 e1 hcp) (by decide) (by decide) dL_calls_103)
theorem ct_L_calls_stopAt (l : Launch) (g : GG) (hnt : l.stackTraces = false) (S : Sto) (q : Nat → Nat) (x0 x1 x2 : Int) (z : Sig) (hT : Top S q) (hW : Wf z) (hCR : CR S q (gT g) z) (hx0 : inR x0) (hx1 : inR x1) (tt : Nat) (htt : tt = gT g) : MetH l g yL_calls cL_calls 6 (some .int) [(0, 103, 104, 40), (0, 103, 109, 42), (0, 103, 114, 44)] 8 2 12 [.ref (q 0), .int (iI 7), .int (iI x0), .int (iI x1), .int (iI x2)] S (PK (oSa z x0 x1) m44 S q tt) := by
  refine MetH.of (own := RL) (lv := [(0, .ref (q 0)), (1, .int (iI 7)), (2, .int (iI x0)), (3, .int (iI x1)), (4, .int (iI x2))]) (by decide) rfl (Nat.le_of_ble_eq_true rfl) rfl ?_
  intro pX eX sX mX argsX belowX methX cX C hnc htab
  refine KIload_n C dL_calls_0 rfl 1 rfl ?_
  refine KIf_ne (tgt := 15) C dL_calls_1 (by decide) ⟨by omega, by omega⟩ (fun _ => ?_) (fun h => absurd h (by decide))
  refine KIload_n C dL_calls_15 rfl 1 rfl ?_
  refine KIconst C dL_calls_16 ?_
  refine KIcmp_ne (tgt := 27) C dL_calls_17 (by decide) ⟨by omega, by omega⟩ ⟨by omega, by omega⟩ (fun _ => ?_) (fun h => absurd h (by decide))
  refine KIload_n C dL_calls_27 rfl 1 rfl ?_
  refine KIconst C dL_calls_28 ?_
  refine KIcmp_ne (tgt := 43) C dL_calls_29 (by decide) ⟨by omega, by omega⟩ ⟨by omega, by omega⟩ (fun _ => ?_) (fun h => absurd h (by decide))
  refine KIload_n C dL_calls_43 rfl 1 rfl ?_
  refine KIconst C dL_calls_44 ?_
  refine KIcmp_ne (tgt := 56) C dL_calls_45 (by decide) ⟨by omega, by omega⟩ ⟨by omega, by omega⟩ (fun _ => ?_) (fun h => absurd h (by decide))
  refine KIload_n C dL_calls_56 rfl 1 rfl ?_
  refine KIconst C dL_calls_57 ?_
  refine KIcmp_ne (tgt := 69) C dL_calls_58 (by decide) ⟨by omega, by omega⟩ ⟨by omega, by omega⟩ (fun _ => ?_) (fun h => absurd h (by decide))
  refine KIload_n C dL_calls_69 rfl 1 rfl ?_
  refine KIconst C dL_calls_70 ?_
  refine KIcmp_ne (tgt := 82) C dL_calls_71 (by decide) ⟨by omega, by omega⟩ ⟨by omega, by omega⟩ (fun _ => ?_) (fun h => absurd h (by decide))
  refine KIload_n C dL_calls_82 rfl 1 rfl ?_
  refine KBipush C dL_calls_83 (by decide) ?_
  refine KIcmp_ne (tgt := 97) C dL_calls_85 (by decide) ⟨by omega, by omega⟩ ⟨by omega, by omega⟩ (fun _ => ?_) (fun h => absurd h (by decide))
  refine KAload_n C dL_calls_97 rfl 0 rfl ?_
  refine KIload_n C dL_calls_98 rfl 2 rfl ?_
  refine KIload_n C dL_calls_99 rfl 3 rfl ?_
  refine KCallVC (As := [.int (iI x0), .int (iI x1)]) (b := q 0) (st := []) C (ct_X5_stopAt l g hnt S q x0 x1 z hT hW hCR hx0 hx1 tt htt) u_ml_RL_37 u_im_yX5_stopAt u_se_yX5_stopAt u_in_RX5 u_co_yX5_stopAt hd_yX5_stopAt (hT.at0 0 6) (by decide) rfl rfl ⟨Nat.le_of_ble_eq_true rfl, Nat.le_of_ble_eq_true rfl⟩ ⟨Nat.le_of_ble_eq_true rfl, Nat.le_of_ble_eq_true rfl⟩ (Nat.le_of_ble_eq_true rfl) dL_calls_100 rfl (fun E7 u7 hx7 => ?_) (fun v7 u7 hp7 => ?_)
  · obtain ⟨hc, hcp⟩ := hx7
    obtain ⟨e1, rfl⟩ := hc
    refine ⟨104, hnd0 htab (by decide) (by decide) (C.words _ u_cl_RL_40) (va_Nw.use rfl (C.nws.1 _ n_ca_java_lang_IndexOutOfBoundsException_java_lang_IndexOutOfBoundsException)), fun qx => ?_⟩
    refine KAstore C dL_calls_104 (by decide) rfl ?_
    refine KBipush C dL_calls_106 (by decide) ?_
    exact KH (KIret C rfl rfl (PK.mkx e1 (by decide) (by decide) hcp) (by decide) (by decide) dL_calls_108)
  · obtain ⟨r, z9, e1, rfl, hcp⟩ := hp7
    refine KSt (st2 := [.int (iI r)]) rfl ?_
    exact KH (KIret C rfl rfl (PK.mk0 e1 hcp) (by decide) (by decide) dL_calls_103)
