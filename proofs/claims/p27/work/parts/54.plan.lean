def P_X5_planWave (S : Sto) (q : Nat → Nat) (x : Int) (z : Sig) (tt : Nat) : Option Value → Sto → Prop := fun v u => ∃ r z', oPw z x = (0, r, z') ∧ v = some (.int (iI r)) ∧ CP S q tt u z'
def T_X5_planWave (S : Sto) (q : Nat → Nat) (x : Int) (z : Sig) (tt : Nat) : String → Sto → Prop := fun E u => ((oPw z x = (1, 0, z) ∧ E = "java/lang/IllegalArgumentException") ∨ (oPw z x = (2, 0, z) ∧ E = "java/lang/IllegalStateException")) ∧ CP S q tt u z
set_option maxRecDepth 100000 in
set_option maxHeartbeats 4000000 in
theorem ct_X5_planWave (l : Launch) (g : GG) (hnt : l.stackTraces = false) (S : Sto) (q : Nat → Nat) (x : Int) (z : Sig) (hT : Top S q) (hW : Wf z) (hCR : CR S q (gT g) z) (hix : inR x) (tt : Nat) (htt : tt = gT g) : MetX l g yX5_planWave cX5_planWave 4 (some FieldType.int) 9 161 3006 [.ref (q 0), .int (iI x)] S (P_X5_planWave S q x z tt) (T_X5_planWave S q x z tt) := by
  refine MetX.of (own := RX5) (lv := [(0, .ref (q 0)), (1, .int (iI x))]) (by decide) rfl (Nat.le_of_ble_eq_true rfl) rfl ?_
  intro pX eX sX mX argsX belowX methX cX C hne
  refine KRg (fun hR => ?_)
  obtain ⟨x1, x2⟩ := id hix
  obtain ⟨w, hCw⟩ := hCR
  obtain ⟨hWh, hBk, hOr, hBt, hBV, hRt, hz⟩ := id hCw
  obtain ⟨e10, e11, e12, e6, e7, e04, e05, e06⟩ := id hWh
  have hC := hW.1
  have hCf : Cf S q := ⟨by omega, by omega, by omega, by omega, by omega, by omega⟩
  have hn4 := hBk.1.2.2.2.1
  have hn40 := hBk.1.2.2.2.2.1
  have hn5 := hBt.1.2.2.2.1
  have hn60 := hBt.1.2.2.2.2.1
  have ho40 := hW.2.1
  have hCP : CP S q tt S z := by rw [htt]; exact CP.refl hT ⟨w, hCw⟩
  refine KIload_n C dX5_planWave_0 rfl 1 rfl ?_
  refine KCallSX (As := [.int (iI x)]) (st := []) C (ct_X5_checkTime l g hnt S x (⟨by omega, by omega⟩)) hne (fun E u ⟨h1, h2, h3⟩ => by subst h3; exact ⟨Or.inl ⟨(by unfold oPw; (repeat' split) <;> first | rfl | omega), h1⟩, hCP⟩) ⟨Nat.le_of_ble_eq_true rfl, Nat.le_of_ble_eq_true rfl⟩ u_ml_RX5_103 u_st_yX5_checkTime u_in_RX5 u_co_yX5_checkTime hd_yX5_checkTime ⟨Nat.le_of_ble_eq_true rfl, Nat.le_of_ble_eq_true rfl⟩ ⟨Nat.le_of_ble_eq_true rfl, Nat.le_of_ble_eq_true rfl⟩ (Nat.le_of_ble_eq_true rfl) dX5_planWave_1 rfl (fun v1 u1 hp1 => ?_)
  obtain ⟨rfl, hck1, rfl⟩ := hp1
  refine KSt (st2 := []) rfl ?_
  refine KAload_n C dX5_planWave_4 rfl 0 rfl ?_
  refine KGetR C ul_X5 rfl (by decide) 2 2 rfl (by decide) rfl u_fl_RX5_36 (hT.at0 0 6) (b := q 3) (hT.ptr 0 2 3) dX5_planWave_5 (fun _ h => h) ?_
  refine KCallV (As := []) (b := q 3) (st := []) C (ct_X4_isOn l g S q w (zb z) hT hBt) u_ml_RX5_73 u_im_yX4_isOn u_se_yX4_isOn u_in_RX4 u_co_yX4_isOn hd_yX4_isOn (hT.at0 3 5) (by decide) rfl rfl ⟨Nat.le_of_ble_eq_true rfl, Nat.le_of_ble_eq_true rfl⟩ ⟨Nat.le_of_ble_eq_true rfl, Nat.le_of_ble_eq_true rfl⟩ (Nat.le_of_ble_eq_true rfl) dX5_planWave_8 rfl (fun v8 u8 hp8 => ?_)
  obtain ⟨⟨b8, rfl⟩ | ⟨b8, rfl⟩, rfl⟩ := hp8
  · refine KSt (st2 := [.int (iI 1)]) rfl ?_
    refine KIf_ne (tgt := 22) C dX5_planWave_11 (by decide) ⟨by omega, by omega⟩ (fun _ => ?_) (fun h => absurd h (by decide))
    refine KThrow (cls := "java/lang/IllegalStateException") (text := "there is a wave, or it would take no order") (ik := 77) (is := 163) (ic := 81) C hnt hne fit_java_lang_IllegalStateException u_cl_RX5_77 u_in_java_lang_IllegalStateException (show ∃ sa, vk_R RX5 163 "there is a wave, or it would take no order" sa sX from C.nws.2.2.2 (RX5, 163, "there is a wave, or it would take no order") s_RX5_163) (thr_words_RX5_81 C.words C.nws) (thr_good_RX5_81) (Nat.le_of_ble_eq_true rfl) (Nat.le_of_ble_eq_true rfl) ⟨Nat.le_of_ble_eq_true rfl, Nat.le_of_ble_eq_true rfl⟩ (by
      first | exact ⟨Or.inl ⟨(by unfold oPw; (repeat' split) <;> first | rfl | omega), rfl⟩, hCP⟩ | exact ⟨Or.inr ⟨(by unfold oPw; (repeat' split) <;> first | rfl | omega), rfl⟩, hCP⟩) ⟨Nat.le_of_ble_eq_true rfl, Nat.le_of_ble_eq_true rfl⟩ dX5_planWave_22 dX5_planWave_25 dX5_planWave_26 dX5_planWave_28 dX5_planWave_31
  · refine KSt (st2 := [.int (iI 0)]) rfl ?_
    refine KIf_ne (tgt := 22) C dX5_planWave_11 (by decide) ⟨by omega, by omega⟩ (fun h => absurd h (by decide)) (fun _ => ?_)
    refine KAload_n C dX5_planWave_14 rfl 0 rfl ?_
    refine KIload_n C dX5_planWave_15 rfl 1 rfl ?_
    refine KCallV (As := [.int (iI x)]) (b := q 0) (st := []) C (ct_X5_takesAnyOrder l g S q x w z hT hW hBk hOr (⟨by omega, by omega⟩)) u_ml_RX5_160 u_im_yX5_takesAnyOrder u_se_yX5_takesAnyOrder u_in_RX5 u_co_yX5_takesAnyOrder hd_yX5_takesAnyOrder (hT.at0 0 6) (by decide) rfl rfl ⟨Nat.le_of_ble_eq_true rfl, Nat.le_of_ble_eq_true rfl⟩ ⟨Nat.le_of_ble_eq_true rfl, Nat.le_of_ble_eq_true rfl⟩ (Nat.le_of_ble_eq_true rfl) dX5_planWave_16 rfl (fun v16 u16 hp16 => ?_)
    obtain ⟨⟨b16, rfl⟩ | ⟨b16, rfl⟩, rfl⟩ := hp16
    · refine KSt (st2 := [.int (iI 1)]) rfl ?_
      have htn : tkN z x (zo z) ≠ 0 := fun h9 => by obtain ⟨o9, h8, h7⟩ := b16; exact (tkN_pos (zo z)).mp h9 o9 h8 h7
      refine KIf_ne (tgt := 32) C dX5_planWave_19 (by decide) ⟨by omega, by omega⟩ (fun _ => ?_) (fun h => absurd h (by decide))
      refine KIconst C dX5_planWave_32 ?_
      refine KIstore_n (lv' := [(2, .int (iI 0)), (0, .ref (q 0)), (1, .int (iI x))]) C dX5_planWave_33 rfl (by decide) rfl ?_
      refine KLv (lv' := [(0, .ref (q 0)), (1, .int (iI x)), (2, .int (iI 0))]) [1, 2, 0] rfl ?_
      refine KWiden (k := 1 + 3 * 0) (n := 6 + 66 * 0) (by omega) (by omega) ?_
      have loop34 : ∀ (nX : Nat) (k : Nat) (S1 : Sto) (w1 : Shp), zo z - k < nX → (k ≤ zo z) → (Gro S S1 ∧ OutM S q S1 ∧ Top S1 q) → (CRj S1 q (gT g) w1 (zwn z x k)) → (∀ b : Nat, b < (tkW z x k).1 → sI S1 (wb w1 b) 0 = (b : Int)) → Wk pX l eX (rmK 9 161 3006) sX mX argsX belowX methX cX (vx_MQ belowX (QcG g (P_X5_planWave S q x z tt)) (XcG g (T_X5_planWave S q x z tt)) argsX sX 161 3006 (ge (gB g))) g 4 (1 + 3 * k) (6 + 66 * k) 34 [(0, .ref (q 0)), (1, .int (iI x)), (2, .int (iI (k : Int)))] [] S1 := by
        intro nX
        induction nX with
        | zero => intro k S1 w1 hm; exact absurd hm (Nat.not_lt_zero _)
        | succ nX ih34 =>
          intro k S1 w1 hm34 hk hI1 hC1 hr1
          refine KRg (fun hR => ?_)
          have hT := hI1.2.2
          obtain ⟨hWh1, hBk1, hOr1, hBt1, hBV1, hz1⟩ := id hC1
          have hOr1 : OrV S1 w1 (zwn z x k) (zo z) := hOr1
          refine KIload_n C dX5_planWave_34 rfl 2 rfl ?_
          refine KAload_n C dX5_planWave_35 rfl 0 rfl ?_
          refine KGetR (S := S1) C ul_X5 rfl (by decide) 3 3 rfl (by decide) rfl u_fl_RX5_43 (hT.at0 0 6) (b := q 4) (hT.ptr 0 3 4) dX5_planWave_36 (fun _ h => h) ?_
          refine KCallV (As := []) (b := q 4) (st := [.int (iI (k : Int))]) C (ct_Jx4a65c_size_8abf5 l g S1 (q 4) (w4 w1) (k4 w1) (zo z) hBk1.1) u_ml_RX5_106 u_im_yJx4a65c_size_8abf5 u_se_yJx4a65c_size_8abf5 u_in_RJx4a65c u_co_yJx4a65c_size_8abf5 hd_yJx4a65c_size_8abf5 (hT.at0 4 0) (by decide) rfl rfl ⟨Nat.le_of_ble_eq_true rfl, Nat.le_of_ble_eq_true rfl⟩ ⟨by show 1 + 3 * k + 0 ≤ 161; omega, by show 6 + 66 * k + 0 ≤ 3006; omega⟩ (Nat.le_of_ble_eq_true rfl) dX5_planWave_39 rfl (fun v39 u39 hp39 => ?_)
          obtain ⟨rfl, rfl⟩ := hp39
          refine KSt (st2 := [.int (iI ((zo z) : Int)), .int (iI (k : Int))]) rfl ?_
          refine KRg (fun hR => ?_)
          refine KIcmp_ge (tgt := 85) C dX5_planWave_42 (by decide) ⟨by omega, by omega⟩ ⟨by omega, by omega⟩ (fun c42 => ?_) (fun c42 => ?_)
          · have hkz : k = zo z := by omega
            have hCv : CRj S1 q (gT g) w1 (zwv z x) := by have h9 := hC1; rw [hkz] at h9; exact h9
            have hWv := hW.wv x (by omega : zb z = 0)
            refine KAload_n C dX5_planWave_85 rfl 0 rfl ?_
            refine KGetR (S := S1) C ul_X5 rfl (by decide) 2 2 rfl (by decide) rfl u_fl_RX5_36 (hT.at0 0 6) (b := q 3) (hT.ptr 0 2 3) dX5_planWave_86 (fun _ h => h) ?_
            refine KAload_n C dX5_planWave_89 rfl 0 rfl ?_
            refine KGetI (S := S1) C ul_X5 rfl (by decide) 4 4 rfl (by decide) rfl u_fl_RX5_47 (hT.at0 0 6) (v := zC z) hC1.1.2.2.2.2.2.1 dX5_planWave_90 (fun _ h => h) ?_
            have rb1 := hR.b (q 0) 4 (v := zC z) hC1.1.2.2.2.2.2.1
            refine KCallV (As := [.int (iI (zC z))]) (b := q 3) (st := []) C (ct_X4_join l g S1 q w1 (zwv z x) hT hWv hCv (gT g) rfl) u_ml_RX5_176 u_im_yX4_join u_se_yX4_join u_in_RX4 u_co_yX4_join hd_yX4_join (hT.at0 3 5) (by decide) rfl rfl ⟨Nat.le_of_ble_eq_true rfl, Nat.le_of_ble_eq_true rfl⟩ ⟨by show 1 + 3 * k + 40 ≤ 161; omega, by show 6 + 66 * k + 360 ≤ 3006; omega⟩ (Nat.le_of_ble_eq_true rfl) dX5_planWave_93 rfl (fun v93 u93 hp93 => ?_)
            obtain ⟨hCP93, rfl⟩ := hp93
            refine KSt (st2 := []) rfl ?_
            refine KRg (fun hR => ?_)
            obtain ⟨hG93, hT93, hO93, w9, hw9⟩ := id hCP93
            have hCw9 : CRw u93 q (gT g) w9 (zjn (zwv z x)) := hw9
            have hT := hT93
            refine KAload_n C dX5_planWave_96 rfl 0 rfl ?_
            refine KGetR (S := u93) C ul_X5 rfl (by decide) 2 2 rfl (by decide) rfl u_fl_RX5_36 (hT.at0 0 6) (b := q 3) (hT.ptr 0 2 3) dX5_planWave_97 (fun _ h => h) ?_
            refine KCallV (As := []) (b := q 3) (st := []) C (ct_X4_size l g u93 q w9 (zb (zjn (zwv z x))) hT hCw9.2.2.2.1) u_ml_RX5_179 u_im_yX4_size u_se_yX4_size u_in_RX4 u_co_yX4_size hd_yX4_size (hT.at0 3 5) (by decide) rfl rfl ⟨Nat.le_of_ble_eq_true rfl, Nat.le_of_ble_eq_true rfl⟩ ⟨by show 1 + 3 * k + 40 + 0 ≤ 161; omega, by show 6 + 66 * k + 360 + 0 ≤ 3006; omega⟩ (Nat.le_of_ble_eq_true rfl) dX5_planWave_100 rfl (fun v100 u100 hp100 => ?_)
            obtain ⟨rfl, rfl⟩ := hp100
            refine KSt (st2 := [.int (iI ((zb (zjn (zwv z x))) : Int))]) rfl ?_
            refine KRg (fun hR => ?_)
            refine KX ?_
            refine KIret C rfl rfl (by
              refine ⟨_, _, (by unfold oPw; (repeat' split) <;> first | rfl | omega), rfl, ⟨hI1.1.trans hG93, hT93, hI1.2.1.trans hO93, w9, (by rw [htt]; exact hw9)⟩⟩) (by first | decide | omega) (by first | decide | omega) dX5_planWave_103
          · refine KAload_n C dX5_planWave_45 rfl 0 rfl ?_
            refine KGetR (S := S1) C ul_X5 rfl (by decide) 3 3 rfl (by decide) rfl u_fl_RX5_43 (hT.at0 0 6) (b := q 4) (hT.ptr 0 3 4) dX5_planWave_46 (fun _ h => h) ?_
            refine KIload_n C dX5_planWave_49 rfl 2 rfl ?_
            refine KCallV (As := [.int (iI (k : Int))]) (b := q 4) (st := []) C (ct_Jx4a65c_get_915e3 l g S1 (q 4) (w4 w1) (k4 w1) (zo z) hBk1.1 k (wo w1 k) (by omega) ((hBk1.2.1 k (show k < zo z by omega)).1)) u_ml_RX5_165 u_im_yJx4a65c_get_915e3 u_se_yJx4a65c_get_915e3 u_in_RJx4a65c u_co_yJx4a65c_get_915e3 hd_yJx4a65c_get_915e3 (hT.at0 4 0) (by decide) rfl rfl ⟨Nat.le_of_ble_eq_true rfl, Nat.le_of_ble_eq_true rfl⟩ ⟨by show 1 + 3 * k + 0 ≤ 161; omega, by show 6 + 66 * k + 0 ≤ 3006; omega⟩ (Nat.le_of_ble_eq_true rfl) dX5_planWave_50 rfl (fun v50 u50 hp50 => ?_)
            obtain ⟨rfl, rfl⟩ := hp50
            refine KSt (st2 := [.ref (wo w1 k)]) rfl ?_
            refine KRg (fun hR => ?_)
            refine KCast C u_cl_RX5_111 (hBk1.2.1 k (show k < zo z by omega)).2.1 (by decide) rfl rfl dX5_planWave_53 ?_
            refine KAstore_n (lv' := [(3, .ref (wo w1 k)), (0, .ref (q 0)), (1, .int (iI x)), (2, .int (iI (k : Int)))]) C dX5_planWave_56 rfl (by decide) rfl ?_
            refine KAload_n C dX5_planWave_57 rfl 0 rfl ?_
            refine KIload_n C dX5_planWave_58 rfl 2 rfl ?_
            refine KCallV (As := [.int (iI x)]) (b := (wo w1 k)) (st := []) C (ct_X1_isTakenAt l g S1 (wo w1 k) ((hBk1.2.1 k (show k < zo z by omega)).2.1) x (⟨by omega, by omega⟩)) u_ml_RX5_169 u_im_yX1_isTakenAt u_se_yX1_isTakenAt u_in_RX1 u_co_yX1_isTakenAt hd_yX1_isTakenAt (hBk1.2.1 k (show k < zo z by omega)).2.1 (by decide) rfl rfl ⟨Nat.le_of_ble_eq_true rfl, Nat.le_of_ble_eq_true rfl⟩ ⟨by show 1 + 3 * k + 0 ≤ 161; omega, by show 6 + 66 * k + 0 ≤ 3006; omega⟩ (Nat.le_of_ble_eq_true rfl) dX5_planWave_59 rfl (fun v59 u59 hp59 => ?_)
            obtain ⟨⟨b59, rfl⟩ | ⟨b59, rfl⟩, rfl⟩ := hp59
            · refine KSt (st2 := [.int (iI 1)]) rfl ?_
              have hik : isT z x k := (isT_wn hW hOr1 (by omega)).mp b59
              refine KIf_eq (tgt := 79) C dX5_planWave_62 (by decide) ⟨by omega, by omega⟩ (fun h => absurd h (by decide)) (fun _ => ?_)
              refine KAload_n C dX5_planWave_65 rfl 0 rfl ?_
              refine KIconst C dX5_planWave_66 ?_
              refine KPutIN (S := S1) (ty := .int) (v := 1) C ul_X1 rfl (by decide) 3 3 rfl (by decide) rfl n_fn_RX5_144 tyX1 tyX1_ok nmX1 (hBk1.2.1 k (show k < zo z by omega)).2.1 ⟨by omega, by omega⟩ (by decide +kernel) rfl rfl rfl dX5_planWave_67 (fun _ h => h) ?_
              obtain ⟨hTk, hGk, hOk, hTk2⟩ := tk_pre hT hW (by omega) hC1 hr1 (by omega) hik
              refine KAload_n C dX5_planWave_70 rfl 1 rfl ?_
              refine KGetR (S := uI S1 (wo w1 k) 3 1) C ul_X5 rfl (by decide) 2 2 rfl (by decide) rfl u_fl_RX5_36 (hT.at0 0 6) (b := q 3) (hT.ptr 0 2 3) dX5_planWave_71 (fun _ h => h) ?_
              refine KIload_n C dX5_planWave_74 rfl 3 rfl ?_
              refine KAload_n C dX5_planWave_75 rfl 0 rfl ?_
              refine KCallV (As := [.int (iI (k : Int)), .ref (wo w1 k)]) (b := q 3) (st := []) C (ct_X4_take l g (uI S1 (wo w1 k) 3 1) q k w1 (zwn z x (k + 1)) ((tkW z x k).1) hT hTk (⟨hC.1, hC.2.1, hC.2.2.1, hC.2.2.2.1, hC.2.2.2.2.1, hC.2.2.2.2.2.1⟩) (hW.okW (show k < zo z by omega)) (gT g) rfl) u_ml_RX5_172 u_im_yX4_take u_se_yX4_take u_in_RX4 u_co_yX4_take hd_yX4_take (hT.at0 3 5) (by decide) rfl rfl ⟨Nat.le_of_ble_eq_true rfl, Nat.le_of_ble_eq_true rfl⟩ ⟨by show 1 + 3 * k + 3 ≤ 161; omega, by show 6 + 66 * k + 66 ≤ 3006; omega⟩ (Nat.le_of_ble_eq_true rfl) dX5_planWave_76 rfl (fun v76 u76 hp76 => ?_)
              obtain ⟨rfl, ⟨w76, hCt76, hrow76⟩, hGt76, hOt76, hTt76⟩ := hp76
              refine KSt (st2 := []) rfl ?_
              refine KRg (fun hR => ?_)
              have hr76 : ∀ b : Nat, b < (tkW z x (k + 1)).1 → sI u76 (wb w76 b) 0 = (b : Int) := by rw [tkW_t hik]; exact hrow76
              refine KIinc (v := ((k + 1 : Nat) : Int)) (lv' := [(2, .int (iI ((k + 1 : Nat) : Int))), (3, .ref (wo w1 k)), (0, .ref (q 0)), (1, .int (iI x))]) C dX5_planWave_79 3 rfl (by omega) (by decide) rfl ?_
              refine KGoto (tgt := 34) C dX5_planWave_82 (by decide) ?_
              refine KWiden (k := 1 + 3 * (k + 1)) (n := 6 + 66 * (k + 1)) (by omega) (by omega) ?_
              refine KLv (lv' := [(0, .ref (q 0)), (1, .int (iI x)), (2, .int (iI ((k + 1 : Nat) : Int)))]) [2, 3, 0] rfl ?_
              exact ih34 (k + 1) u76 w76 (by omega) (by omega) (by first | exact ⟨hI1.1.trans (hGk.trans hGt76), hI1.2.1.trans (hOk.trans hOt76), hTt76⟩ | exact hI1) (by first | exact hCt76 | (rw [← zwn_f hik]; exact hC1)) (by first | exact hr76 | (rw [tkW_f hik]; exact hr1))
            · refine KSt (st2 := [.int (iI 0)]) rfl ?_
              have hik : ¬ isT z x k := fun h9 => b59 ((isT_wn hW hOr1 (by omega)).mpr h9)
              refine KIf_eq (tgt := 79) C dX5_planWave_62 (by decide) ⟨by omega, by omega⟩ (fun _ => ?_) (fun h => absurd h (by decide))
              refine KIinc (v := ((k + 1 : Nat) : Int)) (lv' := [(2, .int (iI ((k + 1 : Nat) : Int))), (3, .ref (wo w1 k)), (0, .ref (q 0)), (1, .int (iI x))]) C dX5_planWave_79 3 rfl (by omega) (by decide) rfl ?_
              refine KGoto (tgt := 34) C dX5_planWave_82 (by decide) ?_
              refine KWiden (k := 1 + 3 * (k + 1)) (n := 6 + 66 * (k + 1)) (by omega) (by omega) ?_
              refine KLv (lv' := [(0, .ref (q 0)), (1, .int (iI x)), (2, .int (iI ((k + 1 : Nat) : Int)))]) [2, 3, 0] rfl ?_
              exact ih34 (k + 1) S1 w1 (by omega) (by omega) (by first | exact ⟨hI1.1.trans (hGk.trans hGt76), hI1.2.1.trans (hOk.trans hOt76), hTt76⟩ | exact hI1) (by first | exact hCt76 | (rw [← zwn_f hik]; exact hC1)) (by first | exact hr76 | (rw [tkW_f hik]; exact hr1))
      exact loop34 _ 0 S w (Nat.lt_succ_self _) (by omega) ⟨Gro.refl, OutM.refl, hT⟩ (by rw [zwn_0 x (by omega)]; exact hCw.j) (fun b h9 => absurd h9 (Nat.not_lt_zero _))
    · refine KSt (st2 := [.int (iI 0)]) rfl ?_
      have htn : tkN z x (zo z) = 0 := (tkN_pos (zo z)).mpr (fun o9 h8 h7 => b16 ⟨o9, h8, h7⟩)
      refine KIf_ne (tgt := 32) C dX5_planWave_19 (by decide) ⟨by omega, by omega⟩ (fun h => absurd h (by decide)) (fun _ => ?_)
      refine KThrow (cls := "java/lang/IllegalStateException") (text := "there is a wave, or it would take no order") (ik := 77) (is := 163) (ic := 81) C hnt hne fit_java_lang_IllegalStateException u_cl_RX5_77 u_in_java_lang_IllegalStateException (show ∃ sa, vk_R RX5 163 "there is a wave, or it would take no order" sa sX from C.nws.2.2.2 (RX5, 163, "there is a wave, or it would take no order") s_RX5_163) (thr_words_RX5_81 C.words C.nws) (thr_good_RX5_81) (Nat.le_of_ble_eq_true rfl) (Nat.le_of_ble_eq_true rfl) ⟨Nat.le_of_ble_eq_true rfl, Nat.le_of_ble_eq_true rfl⟩ (by
        first | exact ⟨Or.inl ⟨(by unfold oPw; (repeat' split) <;> first | rfl | omega), rfl⟩, hCP⟩ | exact ⟨Or.inr ⟨(by unfold oPw; (repeat' split) <;> first | rfl | omega), rfl⟩, hCP⟩) ⟨Nat.le_of_ble_eq_true rfl, Nat.le_of_ble_eq_true rfl⟩ dX5_planWave_22 dX5_planWave_25 dX5_planWave_26 dX5_planWave_28 dX5_planWave_31
