def P_L_isSo (S : Sto) (q : Nat → Nat) (e9 : Int) (z : Sig) (R : Int → Int) (tt : Nat) : Option Value → Sto → Prop := fun v u => v = some (.int (iI 1)) ∧ ∃ R2, LI u q tt z z R2
set_option maxRecDepth 100000 in
set_option maxHeartbeats 4000000 in
theorem ct_L_isSo (l : Launch) (g : GG) (hnt : l.stackTraces = false) (S : Sto) (q : Nat → Nat) (e9 : Int) (z : Sig) (R : Int → Int) (hI : LI S q (gT g) z z R) (hW : Wf z) (tt : Nat) (htt : tt = gT g) : MetN l g yL_isSo cL_isSo 15 (some FieldType.boolean) 16 314 1884 [.ref (q 0), .int (iI e9), .ref (q 81), .ref (q 82), .ref (q 83), .ref (q 84), .ref (q 87), .ref (q 88), .ref (q 80)] S (P_L_isSo S q e9 z R tt) := by
  refine MetN.of (own := RL) (lv := [(0, .ref (q 0)), (1, .int (iI e9)), (2, .ref (q 81)), (3, .ref (q 82)), (4, .ref (q 83)), (5, .ref (q 84)), (6, .ref (q 87)), (7, .ref (q 88)), (8, .ref (q 80))]) (by decide) rfl (Nat.le_of_ble_eq_true rfl) rfl ?_
  intro pX eX sX mX argsX belowX methX cX C hnc
  refine KRg (fun hR => ?_)
  obtain ⟨h12, h6c⟩ := hI.l12
  have hbo := hW.2.1.2
  have hC := hW.1
  obtain ⟨w9, hCw9⟩ := id hI.2.1
  have hwab := hW.wab
  have hrz : inR (za z) := ⟨by omega, by omega⟩
  refine KAload_n C dL_isSo_0 rfl 0 rfl ?_
  refine KCallV (As := []) (b := q 0) (st := []) C (ct_X5_orders l g S q w9 z (hI.1) hCw9) u_ml_RL_93 u_im_yX5_orders u_se_yX5_orders u_in_RX5 u_co_yX5_orders hd_yX5_orders (hI.1.at0 0 6) (by decide) rfl rfl ⟨Nat.le_of_ble_eq_true rfl, Nat.le_of_ble_eq_true rfl⟩ ⟨Nat.le_of_ble_eq_true rfl, Nat.le_of_ble_eq_true rfl⟩ (Nat.le_of_ble_eq_true rfl) dL_isSo_1 rfl (fun v1 u1 hp1 => ?_)
  obtain ⟨rfl, rfl⟩ := hp1
  refine KSt (st2 := [.int (iI (zo z : Int))]) rfl ?_
  refine KAload C dL_isSo_4 8 rfl ?_
  refine KIconst C dL_isSo_6 ?_
  refine KIald  (v := (zo z : Int)) C 8 (hI.1.at0 80 20) (hI.1.ln0 80 8) ⟨by omega, by omega⟩ (by omega) hI.q1 dL_isSo_7 ?_
  refine KIcmp_ne (tgt := 67) C dL_isSo_8 (by decide) ⟨by omega, by omega⟩ ⟨by omega, by omega⟩ (fun c8 => absurd c8 (fun h9 => h9 rfl)) (fun c8 => ?_)
  refine KAload_n C dL_isSo_11 rfl 0 rfl ?_
  refine KCallV (As := []) (b := q 0) (st := []) C (ct_X5_batches l g S q w9 z (hI.1) hCw9) u_ml_RL_96 u_im_yX5_batches u_se_yX5_batches u_in_RX5 u_co_yX5_batches hd_yX5_batches (hI.1.at0 0 6) (by decide) rfl rfl ⟨Nat.le_of_ble_eq_true rfl, Nat.le_of_ble_eq_true rfl⟩ ⟨Nat.le_of_ble_eq_true rfl, Nat.le_of_ble_eq_true rfl⟩ (Nat.le_of_ble_eq_true rfl) dL_isSo_12 rfl (fun v12 u12 hp12 => ?_)
  obtain ⟨rfl, rfl⟩ := hp12
  refine KSt (st2 := [.int (iI (zb z : Int))]) rfl ?_
  refine KAload C dL_isSo_15 8 rfl ?_
  refine KIconst C dL_isSo_17 ?_
  refine KIald  (v := (zb z : Int)) C 8 (hI.1.at0 80 20) (hI.1.ln0 80 8) ⟨by omega, by omega⟩ (by omega) hI.q2 dL_isSo_18 ?_
  refine KIcmp_ne (tgt := 67) C dL_isSo_19 (by decide) ⟨by omega, by omega⟩ ⟨by omega, by omega⟩ (fun c19 => absurd c19 (fun h9 => h9 rfl)) (fun c19 => ?_)
  refine KAload_n C dL_isSo_22 rfl 0 rfl ?_
  refine KCallV (As := []) (b := q 0) (st := []) C (ct_X5_walked l g S q w9 z (hI.1) hCw9) u_ml_RL_99 u_im_yX5_walked u_se_yX5_walked u_in_RX5 u_co_yX5_walked hd_yX5_walked (hI.1.at0 0 6) (by decide) rfl rfl ⟨Nat.le_of_ble_eq_true rfl, Nat.le_of_ble_eq_true rfl⟩ ⟨Nat.le_of_ble_eq_true rfl, Nat.le_of_ble_eq_true rfl⟩ (Nat.le_of_ble_eq_true rfl) dL_isSo_23 rfl (fun v23 u23 hp23 => ?_)
  obtain ⟨rfl, rfl⟩ := hp23
  refine KSt (st2 := [.int (iI (zw z))]) rfl ?_
  refine KAload C dL_isSo_26 8 rfl ?_
  refine KIconst C dL_isSo_28 ?_
  refine KIald  (v := zw z) C 8 (hI.1.at0 80 20) (hI.1.ln0 80 8) ⟨by omega, by omega⟩ (by omega) hI.q3 dL_isSo_29 ?_
  refine KIcmp_ne (tgt := 67) C dL_isSo_30 (by decide) ⟨by omega, by omega⟩ ⟨by omega, by omega⟩ (fun c30 => absurd c30 (fun h9 => h9 rfl)) (fun c30 => ?_)
  refine KAload_n C dL_isSo_33 rfl 0 rfl ?_
  refine KCallV (As := []) (b := q 0) (st := []) C (ct_X5_share l g S q w9 z (hI.1) hW hCw9) u_ml_RL_102 u_im_yX5_share u_se_yX5_share u_in_RX5 u_co_yX5_share hd_yX5_share (hI.1.at0 0 6) (by decide) rfl rfl ⟨Nat.le_of_ble_eq_true rfl, Nat.le_of_ble_eq_true rfl⟩ ⟨Nat.le_of_ble_eq_true rfl, Nat.le_of_ble_eq_true rfl⟩ (Nat.le_of_ble_eq_true rfl) dL_isSo_34 rfl (fun v34 u34 hp34 => ?_)
  obtain ⟨rfl, rfl⟩ := hp34
  refine KSt (st2 := [.double (shr (zw z) (za z))]) rfl ?_
  refine KAload C dL_isSo_37 8 rfl ?_
  refine KIconst C dL_isSo_39 ?_
  refine KIald  (v := za z) C 8 (hI.1.at0 80 20) (hI.1.ln0 80 8) ⟨by omega, by omega⟩ (by omega) hI.q4 dL_isSo_40 ?_
  refine KIf_ne (tgt := 48) C dL_isSo_41 (by decide) ⟨by omega, by omega⟩ (fun c41 => ?_) (fun c41 => ?_)
  · have hzn : ¬ za z = 0 := by omega
    refine KAload C dL_isSo_48 8 rfl ?_
    refine KIconst C dL_isSo_50 ?_
    refine KIald  (v := zw z) C 8 (hI.1.at0 80 20) (hI.1.ln0 80 8) ⟨by omega, by omega⟩ (by omega) hI.q3 dL_isSo_51 ?_
    refine KI2d C dL_isSo_52 ?_
    refine KAload C dL_isSo_53 8 rfl ?_
    refine KIconst C dL_isSo_55 ?_
    refine KIald  (v := za z) C 8 (hI.1.at0 80 20) (hI.1.ln0 80 8) ⟨by omega, by omega⟩ (by omega) hI.q4 dL_isSo_56 ?_
    refine KI2d C dL_isSo_57 ?_
    refine KDdiv C (nan_vf (shr_n hrz hzn)) dL_isSo_58 ?_
    refine KDcmp C dL_isSo_59 ?_
    refine KTop (shr_1 hrz hzn) ?_
    refine KIf_ne (tgt := 67) C dL_isSo_60 (by decide) ⟨by omega, by omega⟩ (fun h => absurd h (by decide)) (fun _ => ?_)
    refine KIconst C dL_isSo_63 ?_
    refine KGoto (tgt := 68) C dL_isSo_64 (by decide) ?_
    refine KIstore (lv' := [(9, .int (iI 1)), (0, .ref (q 0)), (1, .int (iI e9)), (2, .ref (q 81)), (3, .ref (q 82)), (4, .ref (q 83)), (5, .ref (q 84)), (6, .ref (q 87)), (7, .ref (q 88)), (8, .ref (q 80))]) C dL_isSo_68 (by decide) rfl ?_
    refine KIconst C dL_isSo_70 ?_
    refine KIstore (lv' := [(10, .int (iI 0)), (9, .int (iI 1)), (0, .ref (q 0)), (1, .int (iI e9)), (2, .ref (q 81)), (3, .ref (q 82)), (4, .ref (q 83)), (5, .ref (q 84)), (6, .ref (q 87)), (7, .ref (q 88)), (8, .ref (q 80))]) C dL_isSo_71 (by decide) rfl ?_
    refine KLv (lv' := [(0, .ref (q 0)), (1, .int (iI e9)), (2, .ref (q 81)), (3, .ref (q 82)), (4, .ref (q 83)), (5, .ref (q 84)), (6, .ref (q 87)), (7, .ref (q 88)), (8, .ref (q 80)), (9, .int (iI 1)), (10, .int (iI 0))]) [2, 3, 4, 5, 6, 7, 8, 9, 10, 1, 0] rfl ?_
    refine KWiden (k := 2 * 0) (n := 12 * 0) (by omega) (by omega) ?_
    have loop73 : ∀ (nX : Nat) (k : Nat) (U : Sto), 20 - k < nX → (k ≤ 20) → (∃ R2, LI U q (gT g) z z R2) → Wk pX l eX (rmK 16 314 1884) sX mX argsX belowX methX cX (MQ belowX (QcG g (P_L_isSo S q e9 z R tt)) argsX sX 314 1884 (ge (gB g))) g 15 (2 * k) (12 * k) 73 [(0, .ref (q 0)), (1, .int (iI e9)), (2, .ref (q 81)), (3, .ref (q 82)), (4, .ref (q 83)), (5, .ref (q 84)), (6, .ref (q 87)), (7, .ref (q 88)), (8, .ref (q 80)), (9, .int (iI 1)), (10, .int (iI (k : Int)))] [] U := by
      intro nX
      induction nX with
      | zero => intro k U hm; exact absurd hm (Nat.not_lt_zero _)
      | succ nX ih73 =>
        intro k U hm73 hk ehIa
        refine KRg (fun hR => ?_)
        obtain ⟨RhIa, hIa⟩ := ehIa
        refine KIload C dL_isSo_73 10 rfl ?_
        refine KBipush C dL_isSo_75 (by decide) ?_
        refine KIcmp_ge (tgt := 124) C dL_isSo_77 (by decide) ⟨by omega, by omega⟩ ⟨by omega, by omega⟩ (fun c77 => ?_) (fun c77 => ?_)
        · refine KIconst C dL_isSo_124 ?_
          refine KIstore (lv' := [(10, .int (iI 0)), (0, .ref (q 0)), (1, .int (iI e9)), (2, .ref (q 81)), (3, .ref (q 82)), (4, .ref (q 83)), (5, .ref (q 84)), (6, .ref (q 87)), (7, .ref (q 88)), (8, .ref (q 80)), (9, .int (iI 1))]) C dL_isSo_125 (by decide) rfl ?_
          refine KLv (lv' := [(0, .ref (q 0)), (1, .int (iI e9)), (2, .ref (q 81)), (3, .ref (q 82)), (4, .ref (q 83)), (5, .ref (q 84)), (6, .ref (q 87)), (7, .ref (q 88)), (8, .ref (q 80)), (9, .int (iI 1)), (10, .int (iI 0))]) [1, 2, 3, 4, 5, 6, 7, 8, 9, 10, 0] rfl ?_
          refine KWiden (k := 40 + 2 * 0) (n := 240 + 12 * 0) (by omega) (by omega) ?_
          have loop127 : ∀ (nX : Nat) (k : Nat) (U : Sto), zo z - k < nX → (k ≤ zo z) → (∃ R2, LI U q (gT g) z z R2) → Wk pX l eX (rmK 16 314 1884) sX mX argsX belowX methX cX (MQ belowX (QcG g (P_L_isSo S q e9 z R tt)) argsX sX 314 1884 (ge (gB g))) g 15 (40 + 2 * k) (240 + 12 * k) 127 [(0, .ref (q 0)), (1, .int (iI e9)), (2, .ref (q 81)), (3, .ref (q 82)), (4, .ref (q 83)), (5, .ref (q 84)), (6, .ref (q 87)), (7, .ref (q 88)), (8, .ref (q 80)), (9, .int (iI 1)), (10, .int (iI (k : Int)))] [] U := by
            intro nX
            induction nX with
            | zero => intro k U hm; exact absurd hm (Nat.not_lt_zero _)
            | succ nX ih127 =>
              intro k U hm127 hk ehIb
              refine KRg (fun hR => ?_)
              obtain ⟨RhIb, hIb⟩ := ehIb
              refine KIload C dL_isSo_127 10 rfl ?_
              refine KAload C dL_isSo_129 8 rfl ?_
              refine KIconst C dL_isSo_131 ?_
              refine KIald (S := U)  (v := (zo z : Int)) C 8 (hIb.1.at0 80 20) (hIb.1.ln0 80 8) ⟨by omega, by omega⟩ (by omega) hIb.q1 dL_isSo_132 ?_
              refine KIcmp_ge (tgt := 190) C dL_isSo_133 (by decide) ⟨by omega, by omega⟩ ⟨by omega, by omega⟩ (fun c133 => ?_) (fun c133 => ?_)
              · refine KIconst C dL_isSo_190 ?_
                refine KIstore (lv' := [(10, .int (iI 0)), (0, .ref (q 0)), (1, .int (iI e9)), (2, .ref (q 81)), (3, .ref (q 82)), (4, .ref (q 83)), (5, .ref (q 84)), (6, .ref (q 87)), (7, .ref (q 88)), (8, .ref (q 80)), (9, .int (iI 1))]) C dL_isSo_191 (by decide) rfl ?_
                refine KLv (lv' := [(0, .ref (q 0)), (1, .int (iI e9)), (2, .ref (q 81)), (3, .ref (q 82)), (4, .ref (q 83)), (5, .ref (q 84)), (6, .ref (q 87)), (7, .ref (q 88)), (8, .ref (q 80)), (9, .int (iI 1)), (10, .int (iI 0))]) [1, 2, 3, 4, 5, 6, 7, 8, 9, 10, 0] rfl ?_
                refine KWiden (k := 64 + 20 * 0) (n := 384 + 120 * 0) (by omega) (by omega) ?_
                have loop193 : ∀ (nX : Nat) (k : Nat) (U : Sto), zb z - k < nX → (k ≤ zb z) → (∃ R2, LI U q (gT g) z z R2) → Wk pX l eX (rmK 16 314 1884) sX mX argsX belowX methX cX (MQ belowX (QcG g (P_L_isSo S q e9 z R tt)) argsX sX 314 1884 (ge (gB g))) g 15 (64 + 20 * k) (384 + 120 * k) 193 [(0, .ref (q 0)), (1, .int (iI e9)), (2, .ref (q 81)), (3, .ref (q 82)), (4, .ref (q 83)), (5, .ref (q 84)), (6, .ref (q 87)), (7, .ref (q 88)), (8, .ref (q 80)), (9, .int (iI 1)), (10, .int (iI (k : Int)))] [] U := by
                  intro nX
                  induction nX with
                  | zero => intro k U hm; exact absurd hm (Nat.not_lt_zero _)
                  | succ nX ih193 =>
                    intro k U hm193 hk ehIc
                    refine KRg (fun hR => ?_)
                    obtain ⟨RhIc, hIc⟩ := ehIc
                    refine KIload C dL_isSo_193 10 rfl ?_
                    refine KAload C dL_isSo_195 8 rfl ?_
                    refine KIconst C dL_isSo_197 ?_
                    refine KIald (S := U)  (v := (zb z : Int)) C 8 (hIc.1.at0 80 20) (hIc.1.ln0 80 8) ⟨by omega, by omega⟩ (by omega) hIc.q2 dL_isSo_198 ?_
                    refine KIcmp_ge (tgt := 232) C dL_isSo_199 (by decide) ⟨by omega, by omega⟩ ⟨by omega, by omega⟩ (fun c199 => ?_) (fun c199 => ?_)
                    · refine KIconst C dL_isSo_232 ?_
                      refine KIstore (lv' := [(10, .int (iI 0)), (0, .ref (q 0)), (1, .int (iI e9)), (2, .ref (q 81)), (3, .ref (q 82)), (4, .ref (q 83)), (5, .ref (q 84)), (6, .ref (q 87)), (7, .ref (q 88)), (8, .ref (q 80)), (9, .int (iI 1))]) C dL_isSo_233 (by decide) rfl ?_
                      refine KLv (lv' := [(0, .ref (q 0)), (1, .int (iI e9)), (2, .ref (q 81)), (3, .ref (q 82)), (4, .ref (q 83)), (5, .ref (q 84)), (6, .ref (q 87)), (7, .ref (q 88)), (8, .ref (q 80)), (9, .int (iI 1)), (10, .int (iI 0))]) [1, 2, 3, 4, 5, 6, 7, 8, 9, 10, 0] rfl ?_
                      refine KWiden (k := 304 + 1 * 0) (n := 1824 + 6 * 0) (by omega) (by omega) ?_
                      have loop235 : ∀ (nX : Nat) (k : Nat) (U : Sto), (zA z).toNat - k < nX → ((k : Int) ≤ zA z) → (∃ R2, LI U q (gT g) z z R2) → Wk pX l eX (rmK 16 314 1884) sX mX argsX belowX methX cX (MQ belowX (QcG g (P_L_isSo S q e9 z R tt)) argsX sX 314 1884 (ge (gB g))) g 15 (304 + 1 * k) (1824 + 6 * k) 235 [(0, .ref (q 0)), (1, .int (iI e9)), (2, .ref (q 81)), (3, .ref (q 82)), (4, .ref (q 83)), (5, .ref (q 84)), (6, .ref (q 87)), (7, .ref (q 88)), (8, .ref (q 80)), (9, .int (iI 1)), (10, .int (iI (k : Int)))] [] U := by
                        intro nX
                        induction nX with
                        | zero => intro k U hm; exact absurd hm (Nat.not_lt_zero _)
                        | succ nX ih235 =>
                          intro k U hm235 hk ehId
                          refine KRg (fun hR => ?_)
                          obtain ⟨RhId, hId⟩ := ehId
                          refine KIload C dL_isSo_235 10 rfl ?_
                          refine KAload C dL_isSo_237 8 rfl ?_
                          refine KIconst C dL_isSo_239 ?_
                          refine KIald (S := U)  (v := zA z) C 8 (hId.1.at0 80 20) (hId.1.ln0 80 8) ⟨by omega, by omega⟩ (by omega) hId.q5 dL_isSo_240 ?_
                          refine KIcmp_ge (tgt := 364) C dL_isSo_241 (by decide) ⟨by omega, by omega⟩ ⟨by omega, by omega⟩ (fun c241 => ?_) (fun c241 => ?_)
                          · refine KIload_n C dL_isSo_364 rfl 1 rfl ?_
                            refine KBipush C dL_isSo_365 (by decide) ?_
                            refine KCallS (As := [.int (iI e9), .int (iI 20)]) (st := []) C (ct_L_low l g U e9 20 (by omega)) u_ml_RL_125 u_st_yL_low u_in_RL u_co_yL_low hd_yL_low ⟨Nat.le_of_ble_eq_true rfl, Nat.le_of_ble_eq_true rfl⟩ ⟨by show 304 + 1 * k + 0 ≤ 314; omega, by show 1824 + 6 * k + 0 ≤ 1884; omega⟩ (Nat.le_of_ble_eq_true rfl) dL_isSo_367 rfl (fun v367 u367 hp367 => ?_)
                            obtain ⟨rfl, rfl⟩ := hp367
                            refine KSt (st2 := [.int (iI ((lowN e9 20 : Nat) : Int))]) rfl ?_
                            obtain ⟨r367, hrd367⟩ : ∃ n9 : Nat, n9 = lowN e9 20 := ⟨_, rfl⟩
                            have hr367 := lowN_lt (x := e9) (n := 20) (by omega)
                            rw [← hrd367] at hr367
                            refine KTop (congrArg iI (show ((lowN e9 20 : Nat) : Int) = (r367 : Int) from (by rw [hrd367]))) ?_
                            refine KRg (fun hR => ?_)
                            refine KIstore (lv' := [(10, .int (iI (r367 : Int))), (0, .ref (q 0)), (1, .int (iI e9)), (2, .ref (q 81)), (3, .ref (q 82)), (4, .ref (q 83)), (5, .ref (q 84)), (6, .ref (q 87)), (7, .ref (q 88)), (8, .ref (q 80)), (9, .int (iI 1))]) C dL_isSo_370 (by decide) rfl ?_
                            refine KIload_n C dL_isSo_372 rfl 2 rfl ?_
                            refine KIconst C dL_isSo_373 ?_
                            refine KIshr (v := iI ((iI e9 >>> (iI 5 &&& 31)).toInt)) C dL_isSo_374 (iI_of _).symm ?_
                            refine KBipush C dL_isSo_375 (by decide) ?_
                            refine KCallS (As := [.int (iI ((iI e9 >>> (iI 5 &&& 31)).toInt)), .int (iI 20)]) (st := []) C (ct_L_low l g U ((iI e9 >>> (iI 5 &&& 31)).toInt) 20 (by omega)) u_ml_RL_125 u_st_yL_low u_in_RL u_co_yL_low hd_yL_low ⟨Nat.le_of_ble_eq_true rfl, Nat.le_of_ble_eq_true rfl⟩ ⟨by show 304 + 1 * k + 0 ≤ 314; omega, by show 1824 + 6 * k + 0 ≤ 1884; omega⟩ (Nat.le_of_ble_eq_true rfl) dL_isSo_377 rfl (fun v377 u377 hp377 => ?_)
                            obtain ⟨rfl, rfl⟩ := hp377
                            refine KSt (st2 := [.int (iI ((lowN ((iI e9 >>> (iI 5 &&& 31)).toInt) 20 : Nat) : Int))]) rfl ?_
                            obtain ⟨r377, hrd377⟩ : ∃ n9 : Nat, n9 = lowN ((iI e9 >>> (iI 5 &&& 31)).toInt) 20 := ⟨_, rfl⟩
                            have hr377 := lowN_lt (x := ((iI e9 >>> (iI 5 &&& 31)).toInt)) (n := 20) (by omega)
                            rw [← hrd377] at hr377
                            refine KTop (congrArg iI (show ((lowN ((iI e9 >>> (iI 5 &&& 31)).toInt) 20 : Nat) : Int) = (r377 : Int) from (by rw [hrd377]))) ?_
                            refine KRg (fun hR => ?_)
                            refine KIstore (lv' := [(11, .int (iI (r377 : Int))), (10, .int (iI (r367 : Int))), (0, .ref (q 0)), (1, .int (iI e9)), (2, .ref (q 81)), (3, .ref (q 82)), (4, .ref (q 83)), (5, .ref (q 84)), (6, .ref (q 87)), (7, .ref (q 88)), (8, .ref (q 80)), (9, .int (iI 1))]) C dL_isSo_380 (by decide) rfl ?_
                            refine KAload C dL_isSo_382 10 rfl ?_
                            refine KIconst C dL_isSo_384 ?_
                            refine KIald (S := U)  (v := (zo z : Int)) C 8 (hId.1.at0 80 20) (hId.1.ln0 80 8) ⟨by omega, by omega⟩ (by omega) hId.q1 dL_isSo_385 ?_
                            refine KIf_ne (tgt := 393) C dL_isSo_386 (by decide) ⟨by omega, by omega⟩ (fun c386 => ?_) (fun c386 => ?_)
                            · refine KIload_n C dL_isSo_393 rfl 3 rfl ?_
                              refine KBipush C dL_isSo_394 (by decide) ?_
                              refine KIshr (v := iI ((iI e9 >>> (iI 9 &&& 31)).toInt)) C dL_isSo_396 (iI_of _).symm ?_
                              refine KAload C dL_isSo_397 10 rfl ?_
                              refine KIconst C dL_isSo_399 ?_
                              refine KIald (S := U)  (v := (zo z : Int)) C 8 (hId.1.at0 80 20) (hId.1.ln0 80 8) ⟨by omega, by omega⟩ (by omega) hId.q1 dL_isSo_400 ?_
                              refine KCallS (As := [.int (iI ((iI e9 >>> (iI 9 &&& 31)).toInt)), .int (iI (zo z : Int))]) (st := []) C (ct_L_low l g U ((iI e9 >>> (iI 9 &&& 31)).toInt) (zo z : Int) (by omega)) u_ml_RL_125 u_st_yL_low u_in_RL u_co_yL_low hd_yL_low ⟨Nat.le_of_ble_eq_true rfl, Nat.le_of_ble_eq_true rfl⟩ ⟨by show 304 + 1 * k + 0 ≤ 314; omega, by show 1824 + 6 * k + 0 ≤ 1884; omega⟩ (Nat.le_of_ble_eq_true rfl) dL_isSo_401 rfl (fun v401 u401 hp401 => ?_)
                              obtain ⟨rfl, rfl⟩ := hp401
                              refine KSt (st2 := [.int (iI ((lowN ((iI e9 >>> (iI 9 &&& 31)).toInt) (zo z : Int) : Nat) : Int))]) rfl ?_
                              obtain ⟨r401, hrd401⟩ : ∃ n9 : Nat, n9 = lowN ((iI e9 >>> (iI 9 &&& 31)).toInt) (zo z : Int) := ⟨_, rfl⟩
                              have hr401 := lowN_lt (x := ((iI e9 >>> (iI 9 &&& 31)).toInt)) (n := (zo z : Int)) (by omega)
                              rw [← hrd401] at hr401
                              refine KTop (congrArg iI (show ((lowN ((iI e9 >>> (iI 9 &&& 31)).toInt) (zo z : Int) : Nat) : Int) = (r401 : Int) from (by rw [hrd401]))) ?_
                              refine KRg (fun hR => ?_)
                              refine KIstore (lv' := [(12, .int (iI (r401 : Int))), (11, .int (iI (r377 : Int))), (10, .int (iI (r367 : Int))), (0, .ref (q 0)), (1, .int (iI e9)), (2, .ref (q 81)), (3, .ref (q 82)), (4, .ref (q 83)), (5, .ref (q 84)), (6, .ref (q 87)), (7, .ref (q 88)), (8, .ref (q 80)), (9, .int (iI 1))]) C dL_isSo_404 (by decide) rfl ?_
                              refine KIload C dL_isSo_406 12 rfl ?_
                              refine KIf_eq (tgt := 494) C dL_isSo_408 (by decide) ⟨by omega, by omega⟩ (fun h => absurd h (by decide)) (fun _ => ?_)
                              refine KAload_n C dL_isSo_411 rfl 3 rfl ?_
                              refine KBipush C dL_isSo_412 (by decide) ?_
                              refine KIload C dL_isSo_414 2 rfl ?_
                              refine KIload C dL_isSo_416 1 rfl ?_
                              refine KIconst C dL_isSo_418 ?_
                              by_cases hno : zP z (r367 : Int) = -1 ∨ zP z (r377 : Int) = -1
                              · refine KCallSH (As := [.ref (q 0), .int (iI 6), .int (iI (r367 : Int)), .int (iI (r377 : Int)), .int (iI 0)]) (st := []) C hnc (ct_L_calls_distance l g hnt U q (r367 : Int) (r377 : Int) 0 z hId.1 hW hId.2.1 ⟨by omega, by omega⟩ ⟨by omega, by omega⟩ (gT g) rfl) u_ml_RL_89 u_st_yL_calls u_in_RL u_cw_calls hd_yL_calls ⟨Nat.le_of_ble_eq_true rfl, Nat.le_of_ble_eq_true rfl⟩ ⟨by show 304 + 1 * k + 3 ≤ 314; omega, by show 1824 + 6 * k + 18 ≤ 1884; omega⟩ (Nat.le_of_ble_eq_true rfl) dL_isSo_419 rfl (fun v419 u419 hp419 => ?_)
                                obtain ⟨rfl, hc419⟩ := hp419.no (ho_Dx (by omega) (by omega) hno) (by decide) (by decide : _ = ((-3) : Int))
                                have hI419 := hId.cp hc419
                                refine KSt (st2 := [.int (iI (-3))]) rfl ?_
                                refine KRg (fun hR => ?_)
                                have hp1 := hW.plI (x := (r367 : Int)) (by omega)
                                have hp2 := hW.plI (x := (r377 : Int)) (by omega)
                                refine KAload_n C dL_isSo_422 rfl 5 rfl ?_
                                refine KIload C dL_isSo_423 2 rfl ?_
                                refine KIald (S := u419)  (v := zP z (r367 : Int)) C 20 (hI419.1.at0 81 20) (hI419.1.ln0 81 20) ⟨by omega, by omega⟩ (by omega) (congrFun hI419.P _) dL_isSo_425 ?_
                                refine KIf_lt (tgt := 436) C dL_isSo_426 (by decide) ⟨by omega, by omega⟩ (fun c426 => ?_) (fun c426 => ?_)
                                · refine KBipush C dL_isSo_436 (by decide) ?_
                                  refine KGoto (tgt := 454) C dL_isSo_438 (by decide) ?_
                                  refine KIcmp_ne (tgt := 494) C dL_isSo_454 (by decide) ⟨by omega, by omega⟩ ⟨by omega, by omega⟩ (fun h => absurd h (by decide)) (fun _ => ?_)
                                  refine KIload C dL_isSo_457 0 rfl ?_
                                  refine KIf_lt (tgt := 490) C dL_isSo_459 (by decide) ⟨by omega, by omega⟩ (fun c459 => absurd c459 (by omega)) (fun c459 => ?_)
                                  refine KAload_n C dL_isSo_462 rfl 3 rfl ?_
                                  refine KIload C dL_isSo_463 0 rfl ?_
                                  refine KCallVC (As := [.int (iI (r401 : Int))]) (b := q 0) (st := []) C (ct_X5_lengthAlone l g hnt u419 q (r401 : Int) z hI419.1 hW (hI419.2.1) (⟨by omega, by omega⟩) (gT g) rfl) u_ml_RL_128 u_im_yX5_lengthAlone u_se_yX5_lengthAlone u_in_RX5 u_co_yX5_lengthAlone hd_yX5_lengthAlone (hI419.1.at0 0 6) (by decide) rfl rfl ⟨Nat.le_of_ble_eq_true rfl, Nat.le_of_ble_eq_true rfl⟩ ⟨by show 304 + 1 * k + 3 + 1 ≤ 314; omega, by show 1824 + 6 * k + 18 + 6 ≤ 1884; omega⟩ (Nat.le_of_ble_eq_true rfl) dL_isSo_465 rfl (fun E9 u9 hx9 => False.elim (by obtain ⟨hc9, -⟩ := hx9; rw [(ho_La (show r401 < zo z by omega))] at hc9; simp at hc9)) (fun v465 u465 hp465 => ?_)
                                  obtain ⟨r465, z465, ho465, rfl, hc465⟩ := hp465
                                  rw [(ho_La (show r401 < zo z by omega))] at ho465; cases ho465
                                  have hI465 := hI419.cp hc465
                                  refine KSt (st2 := [.int (iI (zto z (zW z r401)))]) rfl ?_
                                  refine KRg (fun hR => ?_)
                                  have hmW := hW.okW (show r401 < zo z by omega)
                                  have hbW := zto_b hW hmW
                                  refine KIload C dL_isSo_468 0 rfl ?_
                                  refine KAload C dL_isSo_470 7 rfl ?_
                                  refine KAload C dL_isSo_472 8 rfl ?_
                                  refine KCallS (As := [.int (iI (r401 : Int)), .ref (q 83), .ref (q 84)]) (st := [.int (iI (zto z (zW z r401)))]) C (ct_L_wanted l g u465 q r401 z hI465.1 hW.wl (hI465.m3) (hI465.pr) h12 (show r401 < zo z by omega)) u_ml_RL_46 u_st_yL_wanted u_in_RL u_co_yL_wanted hd_yL_wanted ⟨Nat.le_of_ble_eq_true rfl, Nat.le_of_ble_eq_true rfl⟩ ⟨by show 304 + 1 * k + 3 + 1 + 0 ≤ 314; omega, by show 1824 + 6 * k + 18 + 6 + 0 ≤ 1884; omega⟩ (Nat.le_of_ble_eq_true rfl) dL_isSo_474 rfl (fun v474 u474 hp474 => ?_)
                                  obtain ⟨rfl, rfl⟩ := hp474
                                  refine KSt (st2 := [.int (iI ((zW z r401 : Nat) : Int)), .int (iI (zto z (zW z r401)))]) rfl ?_
                                  refine KRg (fun hR => ?_)
                                  refine KAload_n C dL_isSo_477 rfl 5 rfl ?_
                                  refine KAload C dL_isSo_478 9 rfl ?_
                                  refine KAload C dL_isSo_480 10 rfl ?_
                                  refine KAload C dL_isSo_482 11 rfl ?_
                                  refine KCallS (As := [.int (iI ((zW z r401 : Nat) : Int)), .ref (q 81), .ref (q 87), .ref (q 88), .ref (q 80)]) (st := [.int (iI (zto z (zW z r401)))]) C (ct_L_route l g u465 q (zW z r401) (zN z) (zG z) (zP z) hI465.1 (hI465.2.2.1.1.2.2.2.2.2.2.1) (hI465.2.2.1.1.2.2.2.2.2.2.2) (hI465.2.2.1.2.1.1) (by omega) (by omega) hmW (hW.ds hmW) (sl6_w hW (show r401 < zo z by omega))) u_ml_RL_67 u_st_yL_route u_in_RL u_co_yL_route hd_yL_route ⟨Nat.le_of_ble_eq_true rfl, Nat.le_of_ble_eq_true rfl⟩ ⟨by show 304 + 1 * k + 3 + 1 + 0 ≤ 314; omega, by show 1824 + 6 * k + 18 + 6 + 0 ≤ 1884; omega⟩ (Nat.le_of_ble_eq_true rfl) dL_isSo_484 rfl (fun v484 u484 hp484 => ?_)
                                  obtain ⟨rfl, f484, rfl, hKR484, hw0484, hwj484⟩ := hp484
                                  refine KSt (st2 := [.int (iI (tour (zN z) (zG z) (zP z) (zW z r401))), .int (iI (zto z (zW z r401)))]) rfl ?_
                                  have hI484 := hI465.kr hKR484
                                  refine KRg (fun hR => ?_)
                                  refine KTop (congrArg iI (show tour (zN z) (zG z) (zP z) (zW z r401) = zto z (zW z r401) from rfl)) ?_
                                  refine KIcmp_ne (tgt := 494) C dL_isSo_487 (by decide) ⟨by omega, by omega⟩ ⟨by omega, by omega⟩ (fun c487 => absurd c487 (fun h9 => h9 rfl)) (fun c487 => ?_)
                                  refine KIconst C dL_isSo_490 ?_
                                  refine KGoto (tgt := 495) C dL_isSo_491 (by decide) ?_
                                  refine KIret C rfl rfl (by
                                    exact ⟨rfl, _, by rw [htt]; exact hI484⟩) (by first | decide | omega) (by first | decide | omega) dL_isSo_495
                                · refine KAload_n C dL_isSo_429 rfl 5 rfl ?_
                                  refine KIload C dL_isSo_430 1 rfl ?_
                                  refine KIald (S := u419)  (v := zP z (r377 : Int)) C 20 (hI419.1.at0 81 20) (hI419.1.ln0 81 20) ⟨by omega, by omega⟩ (by omega) (congrFun hI419.P _) dL_isSo_432 ?_
                                  refine KIf_ge (tgt := 441) C dL_isSo_433 (by decide) ⟨by omega, by omega⟩ (fun c433 => absurd c433 (by omega)) (fun c433 => ?_)
                                  refine KBipush C dL_isSo_436 (by decide) ?_
                                  refine KGoto (tgt := 454) C dL_isSo_438 (by decide) ?_
                                  refine KIcmp_ne (tgt := 494) C dL_isSo_454 (by decide) ⟨by omega, by omega⟩ ⟨by omega, by omega⟩ (fun h => absurd h (by decide)) (fun _ => ?_)
                                  refine KIload C dL_isSo_457 0 rfl ?_
                                  refine KIf_lt (tgt := 490) C dL_isSo_459 (by decide) ⟨by omega, by omega⟩ (fun c459 => absurd c459 (by omega)) (fun c459 => ?_)
                                  refine KAload_n C dL_isSo_462 rfl 3 rfl ?_
                                  refine KIload C dL_isSo_463 0 rfl ?_
                                  refine KCallVC (As := [.int (iI (r401 : Int))]) (b := q 0) (st := []) C (ct_X5_lengthAlone l g hnt u419 q (r401 : Int) z hI419.1 hW (hI419.2.1) (⟨by omega, by omega⟩) (gT g) rfl) u_ml_RL_128 u_im_yX5_lengthAlone u_se_yX5_lengthAlone u_in_RX5 u_co_yX5_lengthAlone hd_yX5_lengthAlone (hI419.1.at0 0 6) (by decide) rfl rfl ⟨Nat.le_of_ble_eq_true rfl, Nat.le_of_ble_eq_true rfl⟩ ⟨by show 304 + 1 * k + 3 + 1 ≤ 314; omega, by show 1824 + 6 * k + 18 + 6 ≤ 1884; omega⟩ (Nat.le_of_ble_eq_true rfl) dL_isSo_465 rfl (fun E9 u9 hx9 => False.elim (by obtain ⟨hc9, -⟩ := hx9; rw [(ho_La (show r401 < zo z by omega))] at hc9; simp at hc9)) (fun v465 u465 hp465 => ?_)
                                  obtain ⟨r465, z465, ho465, rfl, hc465⟩ := hp465
                                  rw [(ho_La (show r401 < zo z by omega))] at ho465; cases ho465
                                  have hI465 := hI419.cp hc465
                                  refine KSt (st2 := [.int (iI (zto z (zW z r401)))]) rfl ?_
                                  refine KRg (fun hR => ?_)
                                  have hmW := hW.okW (show r401 < zo z by omega)
                                  have hbW := zto_b hW hmW
                                  refine KIload C dL_isSo_468 0 rfl ?_
                                  refine KAload C dL_isSo_470 7 rfl ?_
                                  refine KAload C dL_isSo_472 8 rfl ?_
                                  refine KCallS (As := [.int (iI (r401 : Int)), .ref (q 83), .ref (q 84)]) (st := [.int (iI (zto z (zW z r401)))]) C (ct_L_wanted l g u465 q r401 z hI465.1 hW.wl (hI465.m3) (hI465.pr) h12 (show r401 < zo z by omega)) u_ml_RL_46 u_st_yL_wanted u_in_RL u_co_yL_wanted hd_yL_wanted ⟨Nat.le_of_ble_eq_true rfl, Nat.le_of_ble_eq_true rfl⟩ ⟨by show 304 + 1 * k + 3 + 1 + 0 ≤ 314; omega, by show 1824 + 6 * k + 18 + 6 + 0 ≤ 1884; omega⟩ (Nat.le_of_ble_eq_true rfl) dL_isSo_474 rfl (fun v474 u474 hp474 => ?_)
                                  obtain ⟨rfl, rfl⟩ := hp474
                                  refine KSt (st2 := [.int (iI ((zW z r401 : Nat) : Int)), .int (iI (zto z (zW z r401)))]) rfl ?_
                                  refine KRg (fun hR => ?_)
                                  refine KAload_n C dL_isSo_477 rfl 5 rfl ?_
                                  refine KAload C dL_isSo_478 9 rfl ?_
                                  refine KAload C dL_isSo_480 10 rfl ?_
                                  refine KAload C dL_isSo_482 11 rfl ?_
                                  refine KCallS (As := [.int (iI ((zW z r401 : Nat) : Int)), .ref (q 81), .ref (q 87), .ref (q 88), .ref (q 80)]) (st := [.int (iI (zto z (zW z r401)))]) C (ct_L_route l g u465 q (zW z r401) (zN z) (zG z) (zP z) hI465.1 (hI465.2.2.1.1.2.2.2.2.2.2.1) (hI465.2.2.1.1.2.2.2.2.2.2.2) (hI465.2.2.1.2.1.1) (by omega) (by omega) hmW (hW.ds hmW) (sl6_w hW (show r401 < zo z by omega))) u_ml_RL_67 u_st_yL_route u_in_RL u_co_yL_route hd_yL_route ⟨Nat.le_of_ble_eq_true rfl, Nat.le_of_ble_eq_true rfl⟩ ⟨by show 304 + 1 * k + 3 + 1 + 0 ≤ 314; omega, by show 1824 + 6 * k + 18 + 6 + 0 ≤ 1884; omega⟩ (Nat.le_of_ble_eq_true rfl) dL_isSo_484 rfl (fun v484 u484 hp484 => ?_)
                                  obtain ⟨rfl, f484, rfl, hKR484, hw0484, hwj484⟩ := hp484
                                  refine KSt (st2 := [.int (iI (tour (zN z) (zG z) (zP z) (zW z r401))), .int (iI (zto z (zW z r401)))]) rfl ?_
                                  have hI484 := hI465.kr hKR484
                                  refine KRg (fun hR => ?_)
                                  refine KTop (congrArg iI (show tour (zN z) (zG z) (zP z) (zW z r401) = zto z (zW z r401) from rfl)) ?_
                                  refine KIcmp_ne (tgt := 494) C dL_isSo_487 (by decide) ⟨by omega, by omega⟩ ⟨by omega, by omega⟩ (fun c487 => absurd c487 (fun h9 => h9 rfl)) (fun c487 => ?_)
                                  refine KIconst C dL_isSo_490 ?_
                                  refine KGoto (tgt := 495) C dL_isSo_491 (by decide) ?_
                                  refine KIret C rfl rfl (by
                                    exact ⟨rfl, _, by rw [htt]; exact hI484⟩) (by first | decide | omega) (by first | decide | omega) dL_isSo_495
                              · refine KCallSH (As := [.ref (q 0), .int (iI 6), .int (iI (r367 : Int)), .int (iI (r377 : Int)), .int (iI 0)]) (st := []) C hnc (ct_L_calls_distance l g hnt U q (r367 : Int) (r377 : Int) 0 z hId.1 hW hId.2.1 ⟨by omega, by omega⟩ ⟨by omega, by omega⟩ (gT g) rfl) u_ml_RL_89 u_st_yL_calls u_in_RL u_cw_calls hd_yL_calls ⟨Nat.le_of_ble_eq_true rfl, Nat.le_of_ble_eq_true rfl⟩ ⟨by show 304 + 1 * k + 3 ≤ 314; omega, by show 1824 + 6 * k + 18 ≤ 1884; omega⟩ (Nat.le_of_ble_eq_true rfl) dL_isSo_419 rfl (fun v419 u419 hp419 => ?_)
                                obtain ⟨rfl, hc419⟩ := hp419.ok (ho_Di (by omega) (by omega) hno)
                                have hI419 := hId.cp hc419
                                refine KSt (st2 := [.int (iI (dst (zN z) (zG z) (zP z (r367 : Int)) (zP z (r377 : Int))))]) rfl ?_
                                refine KRg (fun hR => ?_)
                                have hp1 := hW.plI (x := (r367 : Int)) (by omega)
                                have hp2 := hW.plI (x := (r377 : Int)) (by omega)
                                have hdb := dst_b (N := zN z) (G := zG z) (x := zP z (r367 : Int)) (y := zP z (r377 : Int)) ⟨by omega, by omega⟩ ⟨by omega, by omega⟩ ⟨by omega, by omega, by omega⟩ ⟨by omega, by omega, by omega⟩ (by omega) (by omega)
                                refine KAload_n C dL_isSo_422 rfl 5 rfl ?_
                                refine KIload C dL_isSo_423 2 rfl ?_
                                refine KIald (S := u419)  (v := zP z (r367 : Int)) C 20 (hI419.1.at0 81 20) (hI419.1.ln0 81 20) ⟨by omega, by omega⟩ (by omega) (congrFun hI419.P _) dL_isSo_425 ?_
                                refine KIf_lt (tgt := 436) C dL_isSo_426 (by decide) ⟨by omega, by omega⟩ (fun c426 => absurd c426 (by omega)) (fun c426 => ?_)
                                refine KAload_n C dL_isSo_429 rfl 5 rfl ?_
                                refine KIload C dL_isSo_430 1 rfl ?_
                                refine KIald (S := u419)  (v := zP z (r377 : Int)) C 20 (hI419.1.at0 81 20) (hI419.1.ln0 81 20) ⟨by omega, by omega⟩ (by omega) (congrFun hI419.P _) dL_isSo_432 ?_
                                refine KIf_ge (tgt := 441) C dL_isSo_433 (by decide) ⟨by omega, by omega⟩ (fun c433 => ?_) (fun c433 => absurd c433 (by omega))
                                refine KAload_n C dL_isSo_441 rfl 5 rfl ?_
                                refine KIload C dL_isSo_442 2 rfl ?_
                                refine KIald (S := u419)  (v := zP z (r367 : Int)) C 20 (hI419.1.at0 81 20) (hI419.1.ln0 81 20) ⟨by omega, by omega⟩ (by omega) (congrFun hI419.P _) dL_isSo_444 ?_
                                refine KAload_n C dL_isSo_445 rfl 5 rfl ?_
                                refine KIload C dL_isSo_446 1 rfl ?_
                                refine KIald (S := u419)  (v := zP z (r377 : Int)) C 20 (hI419.1.at0 81 20) (hI419.1.ln0 81 20) ⟨by omega, by omega⟩ (by omega) (congrFun hI419.P _) dL_isSo_448 ?_
                                refine KAload C dL_isSo_449 11 rfl ?_
                                refine KCallS (As := [.int (iI (zP z (r367 : Int))), .int (iI (zP z (r377 : Int))), .ref (q 80)]) (st := [.int (iI (dst (zN z) (zG z) (zP z (r367 : Int)) (zP z (r377 : Int))))]) C (ct_L_way l g u419 q (zP z (r367 : Int)) (zP z (r377 : Int)) (zN z) (zG z) hI419.1 (hI419.q6) (hI419.q7) (by omega) (by omega) (by omega) (by omega)) u_ml_RL_52 u_st_yL_way u_in_RL u_co_yL_way hd_yL_way ⟨Nat.le_of_ble_eq_true rfl, Nat.le_of_ble_eq_true rfl⟩ ⟨by show 304 + 1 * k + 3 + 0 ≤ 314; omega, by show 1824 + 6 * k + 18 + 0 ≤ 1884; omega⟩ (Nat.le_of_ble_eq_true rfl) dL_isSo_451 rfl (fun v451 u451 hp451 => ?_)
                                obtain ⟨rfl, rfl⟩ := hp451
                                refine KSt (st2 := [.int (iI (dst (zN z) (zG z) (zP z (r367 : Int)) (zP z (r377 : Int)))), .int (iI (dst (zN z) (zG z) (zP z (r367 : Int)) (zP z (r377 : Int))))]) rfl ?_
                                refine KRg (fun hR => ?_)
                                refine KIcmp_ne (tgt := 494) C dL_isSo_454 (by decide) ⟨by omega, by omega⟩ ⟨by omega, by omega⟩ (fun c454 => absurd c454 (fun h9 => h9 rfl)) (fun c454 => ?_)
                                refine KIload C dL_isSo_457 0 rfl ?_
                                refine KIf_lt (tgt := 490) C dL_isSo_459 (by decide) ⟨by omega, by omega⟩ (fun c459 => absurd c459 (by omega)) (fun c459 => ?_)
                                refine KAload_n C dL_isSo_462 rfl 3 rfl ?_
                                refine KIload C dL_isSo_463 0 rfl ?_
                                refine KCallVC (As := [.int (iI (r401 : Int))]) (b := q 0) (st := []) C (ct_X5_lengthAlone l g hnt u419 q (r401 : Int) z hI419.1 hW (hI419.2.1) (⟨by omega, by omega⟩) (gT g) rfl) u_ml_RL_128 u_im_yX5_lengthAlone u_se_yX5_lengthAlone u_in_RX5 u_co_yX5_lengthAlone hd_yX5_lengthAlone (hI419.1.at0 0 6) (by decide) rfl rfl ⟨Nat.le_of_ble_eq_true rfl, Nat.le_of_ble_eq_true rfl⟩ ⟨by show 304 + 1 * k + 3 + 1 ≤ 314; omega, by show 1824 + 6 * k + 18 + 6 ≤ 1884; omega⟩ (Nat.le_of_ble_eq_true rfl) dL_isSo_465 rfl (fun E9 u9 hx9 => False.elim (by obtain ⟨hc9, -⟩ := hx9; rw [(ho_La (show r401 < zo z by omega))] at hc9; simp at hc9)) (fun v465 u465 hp465 => ?_)
                                obtain ⟨r465, z465, ho465, rfl, hc465⟩ := hp465
                                rw [(ho_La (show r401 < zo z by omega))] at ho465; cases ho465
                                have hI465 := hI419.cp hc465
                                refine KSt (st2 := [.int (iI (zto z (zW z r401)))]) rfl ?_
                                refine KRg (fun hR => ?_)
                                have hmW := hW.okW (show r401 < zo z by omega)
                                have hbW := zto_b hW hmW
                                refine KIload C dL_isSo_468 0 rfl ?_
                                refine KAload C dL_isSo_470 7 rfl ?_
                                refine KAload C dL_isSo_472 8 rfl ?_
                                refine KCallS (As := [.int (iI (r401 : Int)), .ref (q 83), .ref (q 84)]) (st := [.int (iI (zto z (zW z r401)))]) C (ct_L_wanted l g u465 q r401 z hI465.1 hW.wl (hI465.m3) (hI465.pr) h12 (show r401 < zo z by omega)) u_ml_RL_46 u_st_yL_wanted u_in_RL u_co_yL_wanted hd_yL_wanted ⟨Nat.le_of_ble_eq_true rfl, Nat.le_of_ble_eq_true rfl⟩ ⟨by show 304 + 1 * k + 3 + 1 + 0 ≤ 314; omega, by show 1824 + 6 * k + 18 + 6 + 0 ≤ 1884; omega⟩ (Nat.le_of_ble_eq_true rfl) dL_isSo_474 rfl (fun v474 u474 hp474 => ?_)
                                obtain ⟨rfl, rfl⟩ := hp474
                                refine KSt (st2 := [.int (iI ((zW z r401 : Nat) : Int)), .int (iI (zto z (zW z r401)))]) rfl ?_
                                refine KRg (fun hR => ?_)
                                refine KAload_n C dL_isSo_477 rfl 5 rfl ?_
                                refine KAload C dL_isSo_478 9 rfl ?_
                                refine KAload C dL_isSo_480 10 rfl ?_
                                refine KAload C dL_isSo_482 11 rfl ?_
                                refine KCallS (As := [.int (iI ((zW z r401 : Nat) : Int)), .ref (q 81), .ref (q 87), .ref (q 88), .ref (q 80)]) (st := [.int (iI (zto z (zW z r401)))]) C (ct_L_route l g u465 q (zW z r401) (zN z) (zG z) (zP z) hI465.1 (hI465.2.2.1.1.2.2.2.2.2.2.1) (hI465.2.2.1.1.2.2.2.2.2.2.2) (hI465.2.2.1.2.1.1) (by omega) (by omega) hmW (hW.ds hmW) (sl6_w hW (show r401 < zo z by omega))) u_ml_RL_67 u_st_yL_route u_in_RL u_co_yL_route hd_yL_route ⟨Nat.le_of_ble_eq_true rfl, Nat.le_of_ble_eq_true rfl⟩ ⟨by show 304 + 1 * k + 3 + 1 + 0 ≤ 314; omega, by show 1824 + 6 * k + 18 + 6 + 0 ≤ 1884; omega⟩ (Nat.le_of_ble_eq_true rfl) dL_isSo_484 rfl (fun v484 u484 hp484 => ?_)
                                obtain ⟨rfl, f484, rfl, hKR484, hw0484, hwj484⟩ := hp484
                                refine KSt (st2 := [.int (iI (tour (zN z) (zG z) (zP z) (zW z r401))), .int (iI (zto z (zW z r401)))]) rfl ?_
                                have hI484 := hI465.kr hKR484
                                refine KRg (fun hR => ?_)
                                refine KTop (congrArg iI (show tour (zN z) (zG z) (zP z) (zW z r401) = zto z (zW z r401) from rfl)) ?_
                                refine KIcmp_ne (tgt := 494) C dL_isSo_487 (by decide) ⟨by omega, by omega⟩ ⟨by omega, by omega⟩ (fun c487 => absurd c487 (fun h9 => h9 rfl)) (fun c487 => ?_)
                                refine KIconst C dL_isSo_490 ?_
                                refine KGoto (tgt := 495) C dL_isSo_491 (by decide) ?_
                                refine KIret C rfl rfl (by
                                  exact ⟨rfl, _, by rw [htt]; exact hI484⟩) (by first | decide | omega) (by first | decide | omega) dL_isSo_495
                            · refine KIconst C dL_isSo_389 ?_
                              refine KGoto (tgt := 404) C dL_isSo_390 (by decide) ?_
                              refine KIstore (lv' := [(12, .int (iI (-1))), (11, .int (iI (r377 : Int))), (10, .int (iI (r367 : Int))), (0, .ref (q 0)), (1, .int (iI e9)), (2, .ref (q 81)), (3, .ref (q 82)), (4, .ref (q 83)), (5, .ref (q 84)), (6, .ref (q 87)), (7, .ref (q 88)), (8, .ref (q 80)), (9, .int (iI 1))]) C dL_isSo_404 (by decide) rfl ?_
                              refine KIload C dL_isSo_406 12 rfl ?_
                              refine KIf_eq (tgt := 494) C dL_isSo_408 (by decide) ⟨by omega, by omega⟩ (fun h => absurd h (by decide)) (fun _ => ?_)
                              refine KAload_n C dL_isSo_411 rfl 3 rfl ?_
                              refine KBipush C dL_isSo_412 (by decide) ?_
                              refine KIload C dL_isSo_414 2 rfl ?_
                              refine KIload C dL_isSo_416 1 rfl ?_
                              refine KIconst C dL_isSo_418 ?_
                              by_cases hno : zP z (r367 : Int) = -1 ∨ zP z (r377 : Int) = -1
                              · refine KCallSH (As := [.ref (q 0), .int (iI 6), .int (iI (r367 : Int)), .int (iI (r377 : Int)), .int (iI 0)]) (st := []) C hnc (ct_L_calls_distance l g hnt U q (r367 : Int) (r377 : Int) 0 z hId.1 hW hId.2.1 ⟨by omega, by omega⟩ ⟨by omega, by omega⟩ (gT g) rfl) u_ml_RL_89 u_st_yL_calls u_in_RL u_cw_calls hd_yL_calls ⟨Nat.le_of_ble_eq_true rfl, Nat.le_of_ble_eq_true rfl⟩ ⟨by show 304 + 1 * k + 3 ≤ 314; omega, by show 1824 + 6 * k + 18 ≤ 1884; omega⟩ (Nat.le_of_ble_eq_true rfl) dL_isSo_419 rfl (fun v419 u419 hp419 => ?_)
                                obtain ⟨rfl, hc419⟩ := hp419.no (ho_Dx (by omega) (by omega) hno) (by decide) (by decide : _ = ((-3) : Int))
                                have hI419 := hId.cp hc419
                                refine KSt (st2 := [.int (iI (-3))]) rfl ?_
                                refine KRg (fun hR => ?_)
                                have hp1 := hW.plI (x := (r367 : Int)) (by omega)
                                have hp2 := hW.plI (x := (r377 : Int)) (by omega)
                                refine KAload_n C dL_isSo_422 rfl 5 rfl ?_
                                refine KIload C dL_isSo_423 2 rfl ?_
                                refine KIald (S := u419)  (v := zP z (r367 : Int)) C 20 (hI419.1.at0 81 20) (hI419.1.ln0 81 20) ⟨by omega, by omega⟩ (by omega) (congrFun hI419.P _) dL_isSo_425 ?_
                                refine KIf_lt (tgt := 436) C dL_isSo_426 (by decide) ⟨by omega, by omega⟩ (fun c426 => ?_) (fun c426 => ?_)
                                · refine KBipush C dL_isSo_436 (by decide) ?_
                                  refine KGoto (tgt := 454) C dL_isSo_438 (by decide) ?_
                                  refine KIcmp_ne (tgt := 494) C dL_isSo_454 (by decide) ⟨by omega, by omega⟩ ⟨by omega, by omega⟩ (fun h => absurd h (by decide)) (fun _ => ?_)
                                  refine KIload C dL_isSo_457 0 rfl ?_
                                  refine KIf_lt (tgt := 490) C dL_isSo_459 (by decide) ⟨by omega, by omega⟩ (fun _ => ?_) (fun h => absurd h (by decide))
                                  refine KIconst C dL_isSo_490 ?_
                                  refine KGoto (tgt := 495) C dL_isSo_491 (by decide) ?_
                                  refine KIret C rfl rfl (by
                                    exact ⟨rfl, _, by rw [htt]; exact hI419⟩) (by first | decide | omega) (by first | decide | omega) dL_isSo_495
                                · refine KAload_n C dL_isSo_429 rfl 5 rfl ?_
                                  refine KIload C dL_isSo_430 1 rfl ?_
                                  refine KIald (S := u419)  (v := zP z (r377 : Int)) C 20 (hI419.1.at0 81 20) (hI419.1.ln0 81 20) ⟨by omega, by omega⟩ (by omega) (congrFun hI419.P _) dL_isSo_432 ?_
                                  refine KIf_ge (tgt := 441) C dL_isSo_433 (by decide) ⟨by omega, by omega⟩ (fun c433 => absurd c433 (by omega)) (fun c433 => ?_)
                                  refine KBipush C dL_isSo_436 (by decide) ?_
                                  refine KGoto (tgt := 454) C dL_isSo_438 (by decide) ?_
                                  refine KIcmp_ne (tgt := 494) C dL_isSo_454 (by decide) ⟨by omega, by omega⟩ ⟨by omega, by omega⟩ (fun h => absurd h (by decide)) (fun _ => ?_)
                                  refine KIload C dL_isSo_457 0 rfl ?_
                                  refine KIf_lt (tgt := 490) C dL_isSo_459 (by decide) ⟨by omega, by omega⟩ (fun _ => ?_) (fun h => absurd h (by decide))
                                  refine KIconst C dL_isSo_490 ?_
                                  refine KGoto (tgt := 495) C dL_isSo_491 (by decide) ?_
                                  refine KIret C rfl rfl (by
                                    exact ⟨rfl, _, by rw [htt]; exact hI419⟩) (by first | decide | omega) (by first | decide | omega) dL_isSo_495
                              · refine KCallSH (As := [.ref (q 0), .int (iI 6), .int (iI (r367 : Int)), .int (iI (r377 : Int)), .int (iI 0)]) (st := []) C hnc (ct_L_calls_distance l g hnt U q (r367 : Int) (r377 : Int) 0 z hId.1 hW hId.2.1 ⟨by omega, by omega⟩ ⟨by omega, by omega⟩ (gT g) rfl) u_ml_RL_89 u_st_yL_calls u_in_RL u_cw_calls hd_yL_calls ⟨Nat.le_of_ble_eq_true rfl, Nat.le_of_ble_eq_true rfl⟩ ⟨by show 304 + 1 * k + 3 ≤ 314; omega, by show 1824 + 6 * k + 18 ≤ 1884; omega⟩ (Nat.le_of_ble_eq_true rfl) dL_isSo_419 rfl (fun v419 u419 hp419 => ?_)
                                obtain ⟨rfl, hc419⟩ := hp419.ok (ho_Di (by omega) (by omega) hno)
                                have hI419 := hId.cp hc419
                                refine KSt (st2 := [.int (iI (dst (zN z) (zG z) (zP z (r367 : Int)) (zP z (r377 : Int))))]) rfl ?_
                                refine KRg (fun hR => ?_)
                                have hp1 := hW.plI (x := (r367 : Int)) (by omega)
                                have hp2 := hW.plI (x := (r377 : Int)) (by omega)
                                have hdb := dst_b (N := zN z) (G := zG z) (x := zP z (r367 : Int)) (y := zP z (r377 : Int)) ⟨by omega, by omega⟩ ⟨by omega, by omega⟩ ⟨by omega, by omega, by omega⟩ ⟨by omega, by omega, by omega⟩ (by omega) (by omega)
                                refine KAload_n C dL_isSo_422 rfl 5 rfl ?_
                                refine KIload C dL_isSo_423 2 rfl ?_
                                refine KIald (S := u419)  (v := zP z (r367 : Int)) C 20 (hI419.1.at0 81 20) (hI419.1.ln0 81 20) ⟨by omega, by omega⟩ (by omega) (congrFun hI419.P _) dL_isSo_425 ?_
                                refine KIf_lt (tgt := 436) C dL_isSo_426 (by decide) ⟨by omega, by omega⟩ (fun c426 => absurd c426 (by omega)) (fun c426 => ?_)
                                refine KAload_n C dL_isSo_429 rfl 5 rfl ?_
                                refine KIload C dL_isSo_430 1 rfl ?_
                                refine KIald (S := u419)  (v := zP z (r377 : Int)) C 20 (hI419.1.at0 81 20) (hI419.1.ln0 81 20) ⟨by omega, by omega⟩ (by omega) (congrFun hI419.P _) dL_isSo_432 ?_
                                refine KIf_ge (tgt := 441) C dL_isSo_433 (by decide) ⟨by omega, by omega⟩ (fun c433 => ?_) (fun c433 => absurd c433 (by omega))
                                refine KAload_n C dL_isSo_441 rfl 5 rfl ?_
                                refine KIload C dL_isSo_442 2 rfl ?_
                                refine KIald (S := u419)  (v := zP z (r367 : Int)) C 20 (hI419.1.at0 81 20) (hI419.1.ln0 81 20) ⟨by omega, by omega⟩ (by omega) (congrFun hI419.P _) dL_isSo_444 ?_
                                refine KAload_n C dL_isSo_445 rfl 5 rfl ?_
                                refine KIload C dL_isSo_446 1 rfl ?_
                                refine KIald (S := u419)  (v := zP z (r377 : Int)) C 20 (hI419.1.at0 81 20) (hI419.1.ln0 81 20) ⟨by omega, by omega⟩ (by omega) (congrFun hI419.P _) dL_isSo_448 ?_
                                refine KAload C dL_isSo_449 11 rfl ?_
                                refine KCallS (As := [.int (iI (zP z (r367 : Int))), .int (iI (zP z (r377 : Int))), .ref (q 80)]) (st := [.int (iI (dst (zN z) (zG z) (zP z (r367 : Int)) (zP z (r377 : Int))))]) C (ct_L_way l g u419 q (zP z (r367 : Int)) (zP z (r377 : Int)) (zN z) (zG z) hI419.1 (hI419.q6) (hI419.q7) (by omega) (by omega) (by omega) (by omega)) u_ml_RL_52 u_st_yL_way u_in_RL u_co_yL_way hd_yL_way ⟨Nat.le_of_ble_eq_true rfl, Nat.le_of_ble_eq_true rfl⟩ ⟨by show 304 + 1 * k + 3 + 0 ≤ 314; omega, by show 1824 + 6 * k + 18 + 0 ≤ 1884; omega⟩ (Nat.le_of_ble_eq_true rfl) dL_isSo_451 rfl (fun v451 u451 hp451 => ?_)
                                obtain ⟨rfl, rfl⟩ := hp451
                                refine KSt (st2 := [.int (iI (dst (zN z) (zG z) (zP z (r367 : Int)) (zP z (r377 : Int)))), .int (iI (dst (zN z) (zG z) (zP z (r367 : Int)) (zP z (r377 : Int))))]) rfl ?_
                                refine KRg (fun hR => ?_)
                                refine KIcmp_ne (tgt := 494) C dL_isSo_454 (by decide) ⟨by omega, by omega⟩ ⟨by omega, by omega⟩ (fun c454 => absurd c454 (fun h9 => h9 rfl)) (fun c454 => ?_)
                                refine KIload C dL_isSo_457 0 rfl ?_
                                refine KIf_lt (tgt := 490) C dL_isSo_459 (by decide) ⟨by omega, by omega⟩ (fun _ => ?_) (fun h => absurd h (by decide))
                                refine KIconst C dL_isSo_490 ?_
                                refine KGoto (tgt := 495) C dL_isSo_491 (by decide) ?_
                                refine KIret C rfl rfl (by
                                  exact ⟨rfl, _, by rw [htt]; exact hI419⟩) (by first | decide | omega) (by first | decide | omega) dL_isSo_495
                          · refine KIload C dL_isSo_244 9 rfl ?_
                            refine KIf_eq (tgt := 364) C dL_isSo_246 (by decide) ⟨by omega, by omega⟩ (fun h => absurd h (by decide)) (fun _ => ?_)
                            refine KIconst C dL_isSo_249 ?_
                            refine KIstore (lv' := [(11, .int (iI 0)), (0, .ref (q 0)), (1, .int (iI e9)), (2, .ref (q 81)), (3, .ref (q 82)), (4, .ref (q 83)), (5, .ref (q 84)), (6, .ref (q 87)), (7, .ref (q 88)), (8, .ref (q 80)), (9, .int (iI 1)), (10, .int (iI (k : Int)))]) C dL_isSo_250 (by decide) rfl ?_
                            refine KIconst C dL_isSo_252 ?_
                            refine KIstore (lv' := [(12, .int (iI 0)), (11, .int (iI 0)), (0, .ref (q 0)), (1, .int (iI e9)), (2, .ref (q 81)), (3, .ref (q 82)), (4, .ref (q 83)), (5, .ref (q 84)), (6, .ref (q 87)), (7, .ref (q 88)), (8, .ref (q 80)), (9, .int (iI 1)), (10, .int (iI (k : Int)))]) C dL_isSo_253 (by decide) rfl ?_
                            refine KLv (lv' := [(0, .ref (q 0)), (1, .int (iI e9)), (2, .ref (q 81)), (3, .ref (q 82)), (4, .ref (q 83)), (5, .ref (q 84)), (6, .ref (q 87)), (7, .ref (q 88)), (8, .ref (q 80)), (9, .int (iI 1)), (10, .int (iI (k : Int))), (11, .int (iI 0)), (12, .int (iI 0))]) [2, 3, 4, 5, 6, 7, 8, 9, 10, 11, 12, 1, 0] rfl ?_
                            have loop255 : ∀ (nX : Nat) (b : Nat), zb z - b < nX → (b ≤ zb z) → Wk pX l eX (rmK 16 314 1884) sX mX argsX belowX methX cX (MQ belowX (QcG g (P_L_isSo S q e9 z R tt)) argsX sX 314 1884 (ge (gB g))) g 15 (304 + 1 * k) (1824 + 6 * k) 255 [(0, .ref (q 0)), (1, .int (iI e9)), (2, .ref (q 81)), (3, .ref (q 82)), (4, .ref (q 83)), (5, .ref (q 84)), (6, .ref (q 87)), (7, .ref (q 88)), (8, .ref (q 80)), (9, .int (iI 1)), (10, .int (iI (k : Int))), (11, .int (iI (ciA z (k : Int) b))), (12, .int (iI (b : Int)))] [] U := by
                              intro nX
                              induction nX with
                              | zero => intro b hm; exact absurd hm (Nat.not_lt_zero _)
                              | succ nX ih255 =>
                                intro b hm255 hbk
                                refine KRg (fun hR => ?_)
                                have hcb := ciA_b z (k : Int) b
                                refine KIload C dL_isSo_255 12 rfl ?_
                                refine KAload C dL_isSo_257 8 rfl ?_
                                refine KIconst C dL_isSo_259 ?_
                                refine KIald (S := U)  (v := (zb z : Int)) C 8 (hId.1.at0 80 20) (hId.1.ln0 80 8) ⟨by omega, by omega⟩ (by omega) hId.q2 dL_isSo_260 ?_
                                refine KIcmp_ge (tgt := 340) C dL_isSo_261 (by decide) ⟨by omega, by omega⟩ ⟨by omega, by omega⟩ (fun c261 => ?_) (fun c261 => ?_)
                                · have hbz : b = zb z := by omega
                                  refine KLvE (lv2 := [(0, .ref (q 0)), (1, .int (iI e9)), (2, .ref (q 81)), (3, .ref (q 82)), (4, .ref (q 83)), (5, .ref (q 84)), (6, .ref (q 87)), (7, .ref (q 88)), (8, .ref (q 80)), (9, .int (iI 1)), (10, .int (iI (k : Int))), (11, .int (iI (ciA z (k : Int) (zb z)))), (12, .int (iI (b : Int)))]) (congrArg (fun zz : Int => ([(0, .ref (q 0)), (1, .int (iI e9)), (2, .ref (q 81)), (3, .ref (q 82)), (4, .ref (q 83)), (5, .ref (q 84)), (6, .ref (q 87)), (7, .ref (q 88)), (8, .ref (q 80)), (9, .int (iI 1)), (10, .int (iI (k : Int))), (11, .int (iI zz)), (12, .int (iI (b : Int)))] : List (Nat × Value))) (show (ciA z (k : Int) b : Int) = ciA z (k : Int) (zb z) from (by rw [hbz]))) ?_
                                  refine KAload_n C dL_isSo_340 rfl 0 rfl ?_
                                  refine KIload C dL_isSo_341 10 rfl ?_
                                  refine KCallVC (As := [.int (iI (k : Int))]) (b := q 0) (st := []) C (ct_X5_inAisle l g hnt U q (k : Int) z hId.1 hW (hId.2.1) (⟨by omega, by omega⟩) (gT g) rfl) u_ml_RL_122 u_im_yX5_inAisle u_se_yX5_inAisle u_in_RX5 u_co_yX5_inAisle hd_yX5_inAisle (hId.1.at0 0 6) (by decide) rfl rfl ⟨Nat.le_of_ble_eq_true rfl, Nat.le_of_ble_eq_true rfl⟩ ⟨by show 304 + 1 * k + 1 ≤ 314; omega, by show 1824 + 6 * k + 6 ≤ 1884; omega⟩ (Nat.le_of_ble_eq_true rfl) dL_isSo_343 rfl (fun E9 u9 hx9 => False.elim (by obtain ⟨hc9, -⟩ := hx9; rw [(ho_Ia (by omega))] at hc9; simp at hc9)) (fun v343 u343 hp343 => ?_)
                                  obtain ⟨r343, z343, ho343, rfl, hc343⟩ := hp343
                                  rw [(ho_Ia (by omega))] at ho343; cases ho343
                                  have hI343 := hId.cp hc343
                                  refine KSt (st2 := [.int (iI (ciA z (k : Int) (zb z)))]) rfl ?_
                                  refine KRg (fun hR => ?_)
                                  have hcz := ciA_b z (k : Int) (zb z)
                                  refine KIload C dL_isSo_346 11 rfl ?_
                                  refine KIcmp_ne (tgt := 355) C dL_isSo_348 (by decide) ⟨by omega, by omega⟩ ⟨by omega, by omega⟩ (fun c348 => absurd c348 (fun h9 => h9 rfl)) (fun c348 => ?_)
                                  refine KIconst C dL_isSo_351 ?_
                                  refine KGoto (tgt := 356) C dL_isSo_352 (by decide) ?_
                                  refine KIstore (lv' := [(9, .int (iI 1)), (0, .ref (q 0)), (1, .int (iI e9)), (2, .ref (q 81)), (3, .ref (q 82)), (4, .ref (q 83)), (5, .ref (q 84)), (6, .ref (q 87)), (7, .ref (q 88)), (8, .ref (q 80)), (10, .int (iI (k : Int))), (11, .int (iI (ciA z (k : Int) (zb z)))), (12, .int (iI (b : Int)))]) C dL_isSo_356 (by decide) rfl ?_
                                  refine KIinc (v := ((k + 1 : Nat) : Int)) (lv' := [(10, .int (iI ((k + 1 : Nat) : Int))), (9, .int (iI 1)), (0, .ref (q 0)), (1, .int (iI e9)), (2, .ref (q 81)), (3, .ref (q 82)), (4, .ref (q 83)), (5, .ref (q 84)), (6, .ref (q 87)), (7, .ref (q 88)), (8, .ref (q 80)), (11, .int (iI (ciA z (k : Int) (zb z)))), (12, .int (iI (b : Int)))]) C dL_isSo_358 10 rfl (by omega) (by decide) rfl ?_
                                  refine KGoto (tgt := 235) C dL_isSo_361 (by decide) ?_
                                  refine KWiden (k := 304 + 1 * (k + 1)) (n := 1824 + 6 * (k + 1)) (by omega) (by omega) ?_
                                  refine KLv (lv' := [(0, .ref (q 0)), (1, .int (iI e9)), (2, .ref (q 81)), (3, .ref (q 82)), (4, .ref (q 83)), (5, .ref (q 84)), (6, .ref (q 87)), (7, .ref (q 88)), (8, .ref (q 80)), (9, .int (iI 1)), (10, .int (iI ((k + 1 : Nat) : Int)))]) [2, 3, 4, 5, 6, 7, 8, 9, 10, 1, 0] rfl ?_
                                  exact ih235 (k + 1) u343 (by omega) (by omega) ⟨_, hI343⟩
                                · have hbz : b < zb z := by omega
                                  have hmB := hW.okB (hW.lnB hbz)
                                  have hmm := hmB.2.2
                                  refine KIconst C dL_isSo_264 ?_
                                  refine KIstore (lv' := [(13, .int (iI 0)), (0, .ref (q 0)), (1, .int (iI e9)), (2, .ref (q 81)), (3, .ref (q 82)), (4, .ref (q 83)), (5, .ref (q 84)), (6, .ref (q 87)), (7, .ref (q 88)), (8, .ref (q 80)), (9, .int (iI 1)), (10, .int (iI (k : Int))), (11, .int (iI (ciA z (k : Int) b))), (12, .int (iI (b : Int)))]) C dL_isSo_265 (by decide) rfl ?_
                                  refine KIconst C dL_isSo_267 ?_
                                  refine KIstore (lv' := [(14, .int (iI 0)), (13, .int (iI 0)), (0, .ref (q 0)), (1, .int (iI e9)), (2, .ref (q 81)), (3, .ref (q 82)), (4, .ref (q 83)), (5, .ref (q 84)), (6, .ref (q 87)), (7, .ref (q 88)), (8, .ref (q 80)), (9, .int (iI 1)), (10, .int (iI (k : Int))), (11, .int (iI (ciA z (k : Int) b))), (12, .int (iI (b : Int)))]) C dL_isSo_268 (by decide) rfl ?_
                                  refine KLv (lv' := [(0, .ref (q 0)), (1, .int (iI e9)), (2, .ref (q 81)), (3, .ref (q 82)), (4, .ref (q 83)), (5, .ref (q 84)), (6, .ref (q 87)), (7, .ref (q 88)), (8, .ref (q 80)), (9, .int (iI 1)), (10, .int (iI (k : Int))), (11, .int (iI (ciA z (k : Int) b))), (12, .int (iI (b : Int))), (13, .int (iI 0)), (14, .int (iI 0))]) [2, 3, 4, 5, 6, 7, 8, 9, 10, 11, 12, 13, 14, 1, 0] rfl ?_
                                  have loop270 : ∀ (nX : Nat) (j : Nat), 20 - j < nX → (j ≤ 20) → Wk pX l eX (rmK 16 314 1884) sX mX argsX belowX methX cX (MQ belowX (QcG g (P_L_isSo S q e9 z R tt)) argsX sX 314 1884 (ge (gB g))) g 15 (304 + 1 * k) (1824 + 6 * k) 270 [(0, .ref (q 0)), (1, .int (iI e9)), (2, .ref (q 81)), (3, .ref (q 82)), (4, .ref (q 83)), (5, .ref (q 84)), (6, .ref (q 87)), (7, .ref (q 88)), (8, .ref (q 80)), (9, .int (iI 1)), (10, .int (iI (k : Int))), (11, .int (iI (ciA z (k : Int) b))), (12, .int (iI (b : Int))), (13, .int (iI ((iF z (b : Int) (k : Int) j : Nat) : Int))), (14, .int (iI (j : Int)))] [] U := by
                                    intro nX
                                    induction nX with
                                    | zero => intro j hm; exact absurd hm (Nat.not_lt_zero _)
                                    | succ nX ih270 =>
                                      intro j hm270 hj
                                      refine KRg (fun hR => ?_)
                                      have hif := iF_le z (b : Int) (k : Int) j
                                      refine KIload C dL_isSo_270 14 rfl ?_
                                      refine KBipush C dL_isSo_272 (by decide) ?_
                                      refine KIcmp_ge (tgt := 327) C dL_isSo_274 (by decide) ⟨by omega, by omega⟩ ⟨by omega, by omega⟩ (fun c274 => ?_) (fun c274 => ?_)
                                      · have hj20 : j = 20 := by omega
                                        have hcs := ciA_st (a := (k : Int)) hmB
                                        refine KLvE (lv2 := [(0, .ref (q 0)), (1, .int (iI e9)), (2, .ref (q 81)), (3, .ref (q 82)), (4, .ref (q 83)), (5, .ref (q 84)), (6, .ref (q 87)), (7, .ref (q 88)), (8, .ref (q 80)), (9, .int (iI 1)), (10, .int (iI (k : Int))), (11, .int (iI (ciA z (k : Int) b))), (12, .int (iI (b : Int))), (13, .int (iI ((iF z (b : Int) (k : Int) 20 : Nat) : Int))), (14, .int (iI (j : Int)))]) (congrArg (fun zz : Int => ([(0, .ref (q 0)), (1, .int (iI e9)), (2, .ref (q 81)), (3, .ref (q 82)), (4, .ref (q 83)), (5, .ref (q 84)), (6, .ref (q 87)), (7, .ref (q 88)), (8, .ref (q 80)), (9, .int (iI 1)), (10, .int (iI (k : Int))), (11, .int (iI (ciA z (k : Int) b))), (12, .int (iI (b : Int))), (13, .int (iI zz)), (14, .int (iI (j : Int)))] : List (Nat × Value))) (show (((iF z (b : Int) (k : Int) j : Nat) : Int) : Int) = ((iF z (b : Int) (k : Int) 20 : Nat) : Int) from (by rw [hj20]))) ?_
                                        refine KIload C dL_isSo_327 11 rfl ?_
                                        refine KIload C dL_isSo_329 13 rfl ?_
                                        refine KIadd C dL_isSo_331 ?_
                                        refine KTop (congrArg iI (show (ciA z (k : Int) b) + ((iF z (b : Int) (k : Int) 20 : Nat) : Int) = ciA z (k : Int) (b + 1) from hcs)) ?_
                                        refine KIstore (lv' := [(11, .int (iI (ciA z (k : Int) (b + 1)))), (0, .ref (q 0)), (1, .int (iI e9)), (2, .ref (q 81)), (3, .ref (q 82)), (4, .ref (q 83)), (5, .ref (q 84)), (6, .ref (q 87)), (7, .ref (q 88)), (8, .ref (q 80)), (9, .int (iI 1)), (10, .int (iI (k : Int))), (12, .int (iI (b : Int))), (13, .int (iI ((iF z (b : Int) (k : Int) 20 : Nat) : Int))), (14, .int (iI (j : Int)))]) C dL_isSo_332 (by decide) rfl ?_
                                        refine KIinc (v := ((b + 1 : Nat) : Int)) (lv' := [(12, .int (iI ((b + 1 : Nat) : Int))), (11, .int (iI (ciA z (k : Int) (b + 1)))), (0, .ref (q 0)), (1, .int (iI e9)), (2, .ref (q 81)), (3, .ref (q 82)), (4, .ref (q 83)), (5, .ref (q 84)), (6, .ref (q 87)), (7, .ref (q 88)), (8, .ref (q 80)), (9, .int (iI 1)), (10, .int (iI (k : Int))), (13, .int (iI ((iF z (b : Int) (k : Int) 20 : Nat) : Int))), (14, .int (iI (j : Int)))]) C dL_isSo_334 12 rfl (by omega) (by decide) rfl ?_
                                        refine KGoto (tgt := 255) C dL_isSo_337 (by decide) ?_
                                        refine KLv (lv' := [(0, .ref (q 0)), (1, .int (iI e9)), (2, .ref (q 81)), (3, .ref (q 82)), (4, .ref (q 83)), (5, .ref (q 84)), (6, .ref (q 87)), (7, .ref (q 88)), (8, .ref (q 80)), (9, .int (iI 1)), (10, .int (iI (k : Int))), (11, .int (iI (ciA z (k : Int) (b + 1)))), (12, .int (iI ((b + 1 : Nat) : Int)))]) [2, 3, 4, 5, 6, 7, 8, 9, 10, 11, 12, 1, 0] rfl ?_
                                        exact ih255 (b + 1) (by omega) (by omega)
                                      · have hpj := hW.plI (x := (j : Int)) (by omega)
                                        refine KIload C dL_isSo_277 13 rfl ?_
                                        refine KAload_n C dL_isSo_279 rfl 2 rfl ?_
                                        refine KIload C dL_isSo_280 14 rfl ?_
                                        refine KIald (S := U)  (v := zP z (j : Int)) C 20 (hId.1.at0 81 20) (hId.1.ln0 81 20) ⟨by omega, by omega⟩ (by omega) (congrFun hId.P _) dL_isSo_282 ?_
                                        refine KIf_lt (tgt := 317) C dL_isSo_283 (by decide) ⟨by omega, by omega⟩ (fun c283 => ?_) (fun c283 => ?_)
                                        · have hfs : iF z (b : Int) (k : Int) (j + 1) = iF z (b : Int) (k : Int) j := iF_skip (fun h9 => by omega)
                                          refine KIconst C dL_isSo_317 ?_
                                          refine KIor (v := iI ((iF z (b : Int) (k : Int) (j + 1) : Nat) : Int)) C dL_isSo_318 ((ib_or0 _).trans (by rw [hfs])) ?_
                                          refine KIstore (lv' := [(13, .int (iI ((iF z (b : Int) (k : Int) (j + 1) : Nat) : Int))), (0, .ref (q 0)), (1, .int (iI e9)), (2, .ref (q 81)), (3, .ref (q 82)), (4, .ref (q 83)), (5, .ref (q 84)), (6, .ref (q 87)), (7, .ref (q 88)), (8, .ref (q 80)), (9, .int (iI 1)), (10, .int (iI (k : Int))), (11, .int (iI (ciA z (k : Int) b))), (12, .int (iI (b : Int))), (14, .int (iI (j : Int)))]) C dL_isSo_319 (by decide) rfl ?_
                                          refine KIinc (v := ((j + 1 : Nat) : Int)) (lv' := [(14, .int (iI ((j + 1 : Nat) : Int))), (13, .int (iI ((iF z (b : Int) (k : Int) (j + 1) : Nat) : Int))), (0, .ref (q 0)), (1, .int (iI e9)), (2, .ref (q 81)), (3, .ref (q 82)), (4, .ref (q 83)), (5, .ref (q 84)), (6, .ref (q 87)), (7, .ref (q 88)), (8, .ref (q 80)), (9, .int (iI 1)), (10, .int (iI (k : Int))), (11, .int (iI (ciA z (k : Int) b))), (12, .int (iI (b : Int)))]) C dL_isSo_321 14 rfl (by omega) (by decide) rfl ?_
                                          refine KGoto (tgt := 270) C dL_isSo_324 (by decide) ?_
                                          refine KLv (lv' := [(0, .ref (q 0)), (1, .int (iI e9)), (2, .ref (q 81)), (3, .ref (q 82)), (4, .ref (q 83)), (5, .ref (q 84)), (6, .ref (q 87)), (7, .ref (q 88)), (8, .ref (q 80)), (9, .int (iI 1)), (10, .int (iI (k : Int))), (11, .int (iI (ciA z (k : Int) b))), (12, .int (iI (b : Int))), (13, .int (iI ((iF z (b : Int) (k : Int) (j + 1) : Nat) : Int))), (14, .int (iI ((j + 1 : Nat) : Int)))]) [2, 3, 4, 5, 6, 7, 8, 9, 10, 11, 12, 13, 14, 1, 0] rfl ?_
                                          exact ih270 (j + 1) (by omega) (by omega)
                                        · refine KAload_n C dL_isSo_286 rfl 2 rfl ?_
                                          refine KIload C dL_isSo_287 14 rfl ?_
                                          refine KIald (S := U)  (v := zP z (j : Int)) C 20 (hId.1.at0 81 20) (hId.1.ln0 81 20) ⟨by omega, by omega⟩ (by omega) (congrFun hId.P _) dL_isSo_289 ?_
                                          refine KBipush C dL_isSo_290 (by decide) ?_
                                          refine KIdiv (z := (zP z (j : Int)) / 100) C dL_isSo_292 ⟨by omega, by omega⟩ ⟨by omega, by omega⟩ (by omega) (tdiv_pos (by omega)) ?_
                                          refine KIload C dL_isSo_293 10 rfl ?_
                                          refine KIcmp_ne (tgt := 317) C dL_isSo_295 (by decide) ⟨by omega, by omega⟩ ⟨by omega, by omega⟩ (fun c295 => ?_) (fun c295 => ?_)
                                          · have hfs : iF z (b : Int) (k : Int) (j + 1) = iF z (b : Int) (k : Int) j := iF_skip (fun h9 => by omega)
                                            refine KIconst C dL_isSo_317 ?_
                                            refine KIor (v := iI ((iF z (b : Int) (k : Int) (j + 1) : Nat) : Int)) C dL_isSo_318 ((ib_or0 _).trans (by rw [hfs])) ?_
                                            refine KIstore (lv' := [(13, .int (iI ((iF z (b : Int) (k : Int) (j + 1) : Nat) : Int))), (0, .ref (q 0)), (1, .int (iI e9)), (2, .ref (q 81)), (3, .ref (q 82)), (4, .ref (q 83)), (5, .ref (q 84)), (6, .ref (q 87)), (7, .ref (q 88)), (8, .ref (q 80)), (9, .int (iI 1)), (10, .int (iI (k : Int))), (11, .int (iI (ciA z (k : Int) b))), (12, .int (iI (b : Int))), (14, .int (iI (j : Int)))]) C dL_isSo_319 (by decide) rfl ?_
                                            refine KIinc (v := ((j + 1 : Nat) : Int)) (lv' := [(14, .int (iI ((j + 1 : Nat) : Int))), (13, .int (iI ((iF z (b : Int) (k : Int) (j + 1) : Nat) : Int))), (0, .ref (q 0)), (1, .int (iI e9)), (2, .ref (q 81)), (3, .ref (q 82)), (4, .ref (q 83)), (5, .ref (q 84)), (6, .ref (q 87)), (7, .ref (q 88)), (8, .ref (q 80)), (9, .int (iI 1)), (10, .int (iI (k : Int))), (11, .int (iI (ciA z (k : Int) b))), (12, .int (iI (b : Int)))]) C dL_isSo_321 14 rfl (by omega) (by decide) rfl ?_
                                            refine KGoto (tgt := 270) C dL_isSo_324 (by decide) ?_
                                            refine KLv (lv' := [(0, .ref (q 0)), (1, .int (iI e9)), (2, .ref (q 81)), (3, .ref (q 82)), (4, .ref (q 83)), (5, .ref (q 84)), (6, .ref (q 87)), (7, .ref (q 88)), (8, .ref (q 80)), (9, .int (iI 1)), (10, .int (iI (k : Int))), (11, .int (iI (ciA z (k : Int) b))), (12, .int (iI (b : Int))), (13, .int (iI ((iF z (b : Int) (k : Int) (j + 1) : Nat) : Int))), (14, .int (iI ((j + 1 : Nat) : Int)))]) [2, 3, 4, 5, 6, 7, 8, 9, 10, 11, 12, 13, 14, 1, 0] rfl ?_
                                            exact ih270 (j + 1) (by omega) (by omega)
                                          · have hfo := iF_or (z := z) (b := (b : Int)) (a := (k : Int)) (k := j) ⟨by omega, by omega⟩
                                            refine KIload C dL_isSo_298 12 rfl ?_
                                            refine KAload C dL_isSo_300 4 rfl ?_
                                            refine KAload C dL_isSo_302 5 rfl ?_
                                            refine KAload C dL_isSo_304 8 rfl ?_
                                            refine KCallS (As := [.int (iI (b : Int)), .ref (q 83), .ref (q 84), .ref (q 80)]) (st := [.int (iI ((iF z (b : Int) (k : Int) j : Nat) : Int))]) C (ct_L_products l g U q (b : Int) z hId.1 hW (hId.2.2.1) (by omega)) u_ml_RL_63 u_st_yL_products u_in_RL u_co_yL_products hd_yL_products ⟨Nat.le_of_ble_eq_true rfl, Nat.le_of_ble_eq_true rfl⟩ ⟨by show 304 + 1 * k + 0 ≤ 314; omega, by show 1824 + 6 * k + 0 ≤ 1884; omega⟩ (Nat.le_of_ble_eq_true rfl) dL_isSo_306 rfl (fun v306 u306 hp306 => ?_)
                                            obtain ⟨rfl, rfl⟩ := hp306
                                            refine KSt (st2 := [.int (iI ((zpd z (b : Int) : Nat) : Int)), .int (iI ((iF z (b : Int) (k : Int) j : Nat) : Int))]) rfl ?_
                                            refine KRg (fun hR => ?_)
                                            refine KIload C dL_isSo_309 14 rfl ?_
                                            refine KIshr (v := iI ((zpd z (b : Int) / 2 ^ j : Nat) : Int)) C dL_isSo_311 (ib_shr (by omega) (by omega)) ?_
                                            refine KIconst C dL_isSo_312 ?_
                                            refine KIand (v := iI ((zpd z (b : Int) / 2 ^ j % 2 : Nat) : Int)) C dL_isSo_313 (ib_bit (by omega) (by omega)) ?_
                                            refine KGoto (tgt := 318) C dL_isSo_314 (by decide) ?_
                                            refine KIor (v := iI ((iF z (b : Int) (k : Int) (j + 1) : Nat) : Int)) C dL_isSo_318 ((ib_or _ _).trans (by rw [hfo])) ?_
                                            refine KIstore (lv' := [(13, .int (iI ((iF z (b : Int) (k : Int) (j + 1) : Nat) : Int))), (0, .ref (q 0)), (1, .int (iI e9)), (2, .ref (q 81)), (3, .ref (q 82)), (4, .ref (q 83)), (5, .ref (q 84)), (6, .ref (q 87)), (7, .ref (q 88)), (8, .ref (q 80)), (9, .int (iI 1)), (10, .int (iI (k : Int))), (11, .int (iI (ciA z (k : Int) b))), (12, .int (iI (b : Int))), (14, .int (iI (j : Int)))]) C dL_isSo_319 (by decide) rfl ?_
                                            refine KIinc (v := ((j + 1 : Nat) : Int)) (lv' := [(14, .int (iI ((j + 1 : Nat) : Int))), (13, .int (iI ((iF z (b : Int) (k : Int) (j + 1) : Nat) : Int))), (0, .ref (q 0)), (1, .int (iI e9)), (2, .ref (q 81)), (3, .ref (q 82)), (4, .ref (q 83)), (5, .ref (q 84)), (6, .ref (q 87)), (7, .ref (q 88)), (8, .ref (q 80)), (9, .int (iI 1)), (10, .int (iI (k : Int))), (11, .int (iI (ciA z (k : Int) b))), (12, .int (iI (b : Int)))]) C dL_isSo_321 14 rfl (by omega) (by decide) rfl ?_
                                            refine KGoto (tgt := 270) C dL_isSo_324 (by decide) ?_
                                            refine KLv (lv' := [(0, .ref (q 0)), (1, .int (iI e9)), (2, .ref (q 81)), (3, .ref (q 82)), (4, .ref (q 83)), (5, .ref (q 84)), (6, .ref (q 87)), (7, .ref (q 88)), (8, .ref (q 80)), (9, .int (iI 1)), (10, .int (iI (k : Int))), (11, .int (iI (ciA z (k : Int) b))), (12, .int (iI (b : Int))), (13, .int (iI ((iF z (b : Int) (k : Int) (j + 1) : Nat) : Int))), (14, .int (iI ((j + 1 : Nat) : Int)))]) [2, 3, 4, 5, 6, 7, 8, 9, 10, 11, 12, 13, 14, 1, 0] rfl ?_
                                            exact ih270 (j + 1) (by omega) (by omega)
                                  exact loop270 _ 0 (Nat.lt_succ_self _) (by omega)
                            exact loop255 _ 0 (Nat.lt_succ_self _) (by omega)
                      exact loop235 _ 0 U (Nat.lt_succ_self _) (by omega) ⟨_, hIc⟩
                    · refine KIload C dL_isSo_202 9 rfl ?_
                      refine KIf_eq (tgt := 232) C dL_isSo_204 (by decide) ⟨by omega, by omega⟩ (fun h => absurd h (by decide)) (fun _ => ?_)
                      refine KAload_n C dL_isSo_207 rfl 0 rfl ?_
                      refine KIload C dL_isSo_208 10 rfl ?_
                      refine KAload_n C dL_isSo_210 rfl 2 rfl ?_
                      refine KAload C dL_isSo_211 4 rfl ?_
                      refine KAload C dL_isSo_213 5 rfl ?_
                      refine KAload C dL_isSo_215 6 rfl ?_
                      refine KAload C dL_isSo_217 7 rfl ?_
                      refine KAload C dL_isSo_219 8 rfl ?_
                      refine KCallSM (As := [.ref (q 0), .int (iI (k : Int)), .ref (q 81), .ref (q 83), .ref (q 84), .ref (q 87), .ref (q 88), .ref (q 80)]) (st := []) C hnc (ct_L_isBatch l g hnt U q k z RhIc (hIc) hW (show k < zb z by omega) (gT g) rfl) u_ml_RL_118 u_st_yL_isBatch u_in_RL u_co_yL_isBatch hd_yL_isBatch ⟨Nat.le_of_ble_eq_true rfl, Nat.le_of_ble_eq_true rfl⟩ ⟨by show 64 + 20 * k + 20 ≤ 314; omega, by show 384 + 120 * k + 120 ≤ 1884; omega⟩ (Nat.le_of_ble_eq_true rfl) dL_isSo_221 rfl (fun v221 u221 hp221 => ?_)
                      obtain ⟨rfl, R221, hI221⟩ := hp221
                      refine KSt (st2 := [.int (iI 1)]) rfl ?_
                      refine KRg (fun hR => ?_)
                      refine KIstore (lv' := [(9, .int (iI 1)), (0, .ref (q 0)), (1, .int (iI e9)), (2, .ref (q 81)), (3, .ref (q 82)), (4, .ref (q 83)), (5, .ref (q 84)), (6, .ref (q 87)), (7, .ref (q 88)), (8, .ref (q 80)), (10, .int (iI (k : Int)))]) C dL_isSo_224 (by decide) rfl ?_
                      refine KIinc (v := ((k + 1 : Nat) : Int)) (lv' := [(10, .int (iI ((k + 1 : Nat) : Int))), (9, .int (iI 1)), (0, .ref (q 0)), (1, .int (iI e9)), (2, .ref (q 81)), (3, .ref (q 82)), (4, .ref (q 83)), (5, .ref (q 84)), (6, .ref (q 87)), (7, .ref (q 88)), (8, .ref (q 80))]) C dL_isSo_226 10 rfl (by omega) (by decide) rfl ?_
                      refine KGoto (tgt := 193) C dL_isSo_229 (by decide) ?_
                      refine KWiden (k := 64 + 20 * (k + 1)) (n := 384 + 120 * (k + 1)) (by omega) (by omega) ?_
                      refine KLv (lv' := [(0, .ref (q 0)), (1, .int (iI e9)), (2, .ref (q 81)), (3, .ref (q 82)), (4, .ref (q 83)), (5, .ref (q 84)), (6, .ref (q 87)), (7, .ref (q 88)), (8, .ref (q 80)), (9, .int (iI 1)), (10, .int (iI ((k + 1 : Nat) : Int)))]) [2, 3, 4, 5, 6, 7, 8, 9, 10, 1, 0] rfl ?_
                      exact ih193 (k + 1) u221 (by omega) (by omega) ⟨_, hI221⟩
                exact loop193 _ 0 U (Nat.lt_succ_self _) (by omega) ⟨_, hIb⟩
              · have hkz : k < zo z := by omega
                have hsk := zst_b hW hkz
                refine KIload C dL_isSo_136 9 rfl ?_
                refine KIf_eq (tgt := 190) C dL_isSo_138 (by decide) ⟨by omega, by omega⟩ (fun h => absurd h (by decide)) (fun _ => ?_)
                refine KAload_n C dL_isSo_141 rfl 0 rfl ?_
                refine KIload C dL_isSo_142 10 rfl ?_
                refine KCallVC (As := [.int (iI (k : Int))]) (b := q 0) (st := []) C (ct_X5_stateOf l g hnt U q (k : Int) z hIb.1 hW (hIb.2.1) (⟨by omega, by omega⟩) (gT g) rfl) u_ml_RL_112 u_im_yX5_stateOf u_se_yX5_stateOf u_in_RX5 u_co_yX5_stateOf hd_yX5_stateOf (hIb.1.at0 0 6) (by decide) rfl rfl ⟨Nat.le_of_ble_eq_true rfl, Nat.le_of_ble_eq_true rfl⟩ ⟨by show 40 + 2 * k + 1 ≤ 314; omega, by show 240 + 12 * k + 6 ≤ 1884; omega⟩ (Nat.le_of_ble_eq_true rfl) dL_isSo_144 rfl (fun E9 u9 hx9 => False.elim (by obtain ⟨hc9, -⟩ := hx9; rw [(ho_St hkz)] at hc9; simp at hc9)) (fun v144 u144 hp144 => ?_)
                obtain ⟨r144, z144, ho144, rfl, hc144⟩ := hp144
                rw [(ho_St hkz)] at ho144; cases ho144
                have hI144 := hIb.cp hc144
                refine KSt (st2 := [.int (iI (zst z (k : Int)))]) rfl ?_
                refine KRg (fun hR => ?_)
                refine KAload C dL_isSo_147 4 rfl ?_
                refine KIconst C dL_isSo_149 ?_
                refine KIload C dL_isSo_150 10 rfl ?_
                refine KImul C dL_isSo_152 ?_
                refine KIconst C dL_isSo_153 ?_
                refine KIadd C dL_isSo_154 ?_
                refine KTop (congrArg iI (show (4 * (k : Int)) + 1 = ((4 * k + 1 : Nat) : Int) from (by omega))) ?_
                refine KIald (S := u144)  (v := zst z (k : Int)) C 48 (hI144.1.at0 83 20) (hI144.1.ln0 83 48) ⟨by omega, by omega⟩ (by omega) (hI144.o k hkz).2.1 dL_isSo_155 ?_
                refine KIcmp_ne (tgt := 181) C dL_isSo_156 (by decide) ⟨by omega, by omega⟩ ⟨by omega, by omega⟩ (fun c156 => absurd c156 (fun h9 => h9 rfl)) (fun c156 => ?_)
                refine KAload_n C dL_isSo_159 rfl 0 rfl ?_
                refine KIload C dL_isSo_160 10 rfl ?_
                refine KCallVC (As := [.int (iI (k : Int))]) (b := q 0) (st := []) C (ct_X5_batchOf l g hnt u144 q (k : Int) z hI144.1 hW (hI144.2.1) (⟨by omega, by omega⟩) (gT g) rfl) u_ml_RL_115 u_im_yX5_batchOf u_se_yX5_batchOf u_in_RX5 u_co_yX5_batchOf hd_yX5_batchOf (hI144.1.at0 0 6) (by decide) rfl rfl ⟨Nat.le_of_ble_eq_true rfl, Nat.le_of_ble_eq_true rfl⟩ ⟨by show 40 + 2 * k + 1 + 1 ≤ 314; omega, by show 240 + 12 * k + 6 + 6 ≤ 1884; omega⟩ (Nat.le_of_ble_eq_true rfl) dL_isSo_162 rfl (fun E9 u9 hx9 => False.elim (by obtain ⟨hc9, -⟩ := hx9; rw [(ho_Bt hkz)] at hc9; simp at hc9)) (fun v162 u162 hp162 => ?_)
                obtain ⟨r162, z162, ho162, rfl, hc162⟩ := hp162
                rw [(ho_Bt hkz)] at ho162; cases ho162
                have hI162 := hI144.cp hc162
                refine KSt (st2 := [.int (iI (zbt z (k : Int)))]) rfl ?_
                refine KRg (fun hR => ?_)
                refine KAload C dL_isSo_165 4 rfl ?_
                refine KIconst C dL_isSo_167 ?_
                refine KIload C dL_isSo_168 10 rfl ?_
                refine KImul C dL_isSo_170 ?_
                refine KIconst C dL_isSo_171 ?_
                refine KIadd C dL_isSo_172 ?_
                refine KTop (congrArg iI (show (4 * (k : Int)) + 2 = ((4 * k + 2 : Nat) : Int) from (by omega))) ?_
                refine KIald (S := u162)  (v := zbt z (k : Int)) C 48 (hI162.1.at0 83 20) (hI162.1.ln0 83 48) ⟨by omega, by omega⟩ (by omega) (hI162.o k hkz).2.2.1 dL_isSo_173 ?_
                refine KIcmp_ne (tgt := 181) C dL_isSo_174 (by decide) ⟨by omega, by omega⟩ ⟨by omega, by omega⟩ (fun c174 => absurd c174 (fun h9 => h9 rfl)) (fun c174 => ?_)
                refine KIconst C dL_isSo_177 ?_
                refine KGoto (tgt := 182) C dL_isSo_178 (by decide) ?_
                refine KIstore (lv' := [(9, .int (iI 1)), (0, .ref (q 0)), (1, .int (iI e9)), (2, .ref (q 81)), (3, .ref (q 82)), (4, .ref (q 83)), (5, .ref (q 84)), (6, .ref (q 87)), (7, .ref (q 88)), (8, .ref (q 80)), (10, .int (iI (k : Int)))]) C dL_isSo_182 (by decide) rfl ?_
                refine KIinc (v := ((k + 1 : Nat) : Int)) (lv' := [(10, .int (iI ((k + 1 : Nat) : Int))), (9, .int (iI 1)), (0, .ref (q 0)), (1, .int (iI e9)), (2, .ref (q 81)), (3, .ref (q 82)), (4, .ref (q 83)), (5, .ref (q 84)), (6, .ref (q 87)), (7, .ref (q 88)), (8, .ref (q 80))]) C dL_isSo_184 10 rfl (by omega) (by decide) rfl ?_
                refine KGoto (tgt := 127) C dL_isSo_187 (by decide) ?_
                refine KWiden (k := 40 + 2 * (k + 1)) (n := 240 + 12 * (k + 1)) (by omega) (by omega) ?_
                refine KLv (lv' := [(0, .ref (q 0)), (1, .int (iI e9)), (2, .ref (q 81)), (3, .ref (q 82)), (4, .ref (q 83)), (5, .ref (q 84)), (6, .ref (q 87)), (7, .ref (q 88)), (8, .ref (q 80)), (9, .int (iI 1)), (10, .int (iI ((k + 1 : Nat) : Int)))]) [2, 3, 4, 5, 6, 7, 8, 9, 10, 1, 0] rfl ?_
                exact ih127 (k + 1) u162 (by omega) (by omega) ⟨_, hI162⟩
          exact loop127 _ 0 U (Nat.lt_succ_self _) (by omega) ⟨_, hIa⟩
        · refine KIload C dL_isSo_80 9 rfl ?_
          refine KIf_eq (tgt := 124) C dL_isSo_82 (by decide) ⟨by omega, by omega⟩ (fun h => absurd h (by decide)) (fun _ => ?_)
          refine KAload_n C dL_isSo_85 rfl 0 rfl ?_
          refine KIload C dL_isSo_86 10 rfl ?_
          refine KCallVC (As := [.int (iI (k : Int))]) (b := q 0) (st := []) C (ct_X5_placeOf l g hnt U q (k : Int) z hIa.1 hW (hIa.2.1) (⟨by omega, by omega⟩) (gT g) rfl) u_ml_RL_106 u_im_yX5_placeOf u_se_yX5_placeOf u_in_RX5 u_co_yX5_placeOf hd_yX5_placeOf (hIa.1.at0 0 6) (by decide) rfl rfl ⟨Nat.le_of_ble_eq_true rfl, Nat.le_of_ble_eq_true rfl⟩ ⟨by show 2 * k + 1 ≤ 314; omega, by show 12 * k + 6 ≤ 1884; omega⟩ (Nat.le_of_ble_eq_true rfl) dL_isSo_88 rfl (fun E9 u9 hx9 => False.elim (by obtain ⟨hc9, -⟩ := hx9; rw [(ho_Pl (show k < 20 by omega))] at hc9; simp at hc9)) (fun v88 u88 hp88 => ?_)
          obtain ⟨r88, z88, ho88, rfl, hc88⟩ := hp88
          rw [(ho_Pl (show k < 20 by omega))] at ho88; cases ho88
          have hI88 := hIa.cp hc88
          refine KSt (st2 := [.int (iI (zP z (k : Int)))]) rfl ?_
          refine KRg (fun hR => ?_)
          have hpk := hW.plI (x := (k : Int)) (by omega)
          refine KAload_n C dL_isSo_91 rfl 2 rfl ?_
          refine KIload C dL_isSo_92 10 rfl ?_
          refine KIald (S := u88)  (v := zP z (k : Int)) C 20 (hI88.1.at0 81 20) (hI88.1.ln0 81 20) ⟨by omega, by omega⟩ (by omega) (congrFun hI88.P _) dL_isSo_94 ?_
          refine KIcmp_ne (tgt := 115) C dL_isSo_95 (by decide) ⟨by omega, by omega⟩ ⟨by omega, by omega⟩ (fun c95 => absurd c95 (fun h9 => h9 rfl)) (fun c95 => ?_)
          refine KAload_n C dL_isSo_98 rfl 0 rfl ?_
          refine KIload C dL_isSo_99 10 rfl ?_
          refine KCallVC (As := [.int (iI (k : Int))]) (b := q 0) (st := []) C (ct_X5_turnover l g hnt u88 q (k : Int) z hI88.1 hW (hI88.2.1) (⟨by omega, by omega⟩) (gT g) rfl) u_ml_RL_109 u_im_yX5_turnover u_se_yX5_turnover u_in_RX5 u_co_yX5_turnover hd_yX5_turnover (hI88.1.at0 0 6) (by decide) rfl rfl ⟨Nat.le_of_ble_eq_true rfl, Nat.le_of_ble_eq_true rfl⟩ ⟨by show 2 * k + 1 + 1 ≤ 314; omega, by show 12 * k + 6 + 6 ≤ 1884; omega⟩ (Nat.le_of_ble_eq_true rfl) dL_isSo_101 rfl (fun E9 u9 hx9 => False.elim (by obtain ⟨hc9, -⟩ := hx9; rw [(ho_Tv (show k < 20 by omega))] at hc9; simp at hc9)) (fun v101 u101 hp101 => ?_)
          obtain ⟨r101, z101, ho101, rfl, hc101⟩ := hp101
          rw [(ho_Tv (show k < 20 by omega))] at ho101; cases ho101
          have hI101 := hI88.cp hc101
          refine KSt (st2 := [.int (iI (ztv z (k : Int)))]) rfl ?_
          refine KRg (fun hR => ?_)
          have htk := ztv_bb hW (k : Int)
          refine KAload_n C dL_isSo_104 rfl 3 rfl ?_
          refine KIload C dL_isSo_105 10 rfl ?_
          refine KIald (S := u101)  (v := ztv z (k : Int)) C 20 (hI101.1.at0 82 20) (hI101.1.ln0 82 20) ⟨by omega, by omega⟩ (by omega) (hI101.tv k (by omega)) dL_isSo_107 ?_
          refine KIcmp_ne (tgt := 115) C dL_isSo_108 (by decide) ⟨by omega, by omega⟩ ⟨by omega, by omega⟩ (fun c108 => absurd c108 (fun h9 => h9 rfl)) (fun c108 => ?_)
          refine KIconst C dL_isSo_111 ?_
          refine KGoto (tgt := 116) C dL_isSo_112 (by decide) ?_
          refine KIstore (lv' := [(9, .int (iI 1)), (0, .ref (q 0)), (1, .int (iI e9)), (2, .ref (q 81)), (3, .ref (q 82)), (4, .ref (q 83)), (5, .ref (q 84)), (6, .ref (q 87)), (7, .ref (q 88)), (8, .ref (q 80)), (10, .int (iI (k : Int)))]) C dL_isSo_116 (by decide) rfl ?_
          refine KIinc (v := ((k + 1 : Nat) : Int)) (lv' := [(10, .int (iI ((k + 1 : Nat) : Int))), (9, .int (iI 1)), (0, .ref (q 0)), (1, .int (iI e9)), (2, .ref (q 81)), (3, .ref (q 82)), (4, .ref (q 83)), (5, .ref (q 84)), (6, .ref (q 87)), (7, .ref (q 88)), (8, .ref (q 80))]) C dL_isSo_118 10 rfl (by omega) (by decide) rfl ?_
          refine KGoto (tgt := 73) C dL_isSo_121 (by decide) ?_
          refine KWiden (k := 2 * (k + 1)) (n := 12 * (k + 1)) (by omega) (by omega) ?_
          refine KLv (lv' := [(0, .ref (q 0)), (1, .int (iI e9)), (2, .ref (q 81)), (3, .ref (q 82)), (4, .ref (q 83)), (5, .ref (q 84)), (6, .ref (q 87)), (7, .ref (q 88)), (8, .ref (q 80)), (9, .int (iI 1)), (10, .int (iI ((k + 1 : Nat) : Int)))]) [2, 3, 4, 5, 6, 7, 8, 9, 10, 1, 0] rfl ?_
          exact ih73 (k + 1) u101 (by omega) (by omega) ⟨_, hI101⟩
    exact loop73 _ 0 S (Nat.lt_succ_self _) (by omega) ⟨_, hI⟩
  · refine KDconst1 C dL_isSo_44 ?_
    refine KGoto (tgt := 59) C dL_isSo_45 (by decide) ?_
    refine KDcmp C dL_isSo_59 ?_
    refine KTop (shr_0 hrz (by omega)) ?_
    refine KIf_ne (tgt := 67) C dL_isSo_60 (by decide) ⟨by omega, by omega⟩ (fun h => absurd h (by decide)) (fun _ => ?_)
    refine KIconst C dL_isSo_63 ?_
    refine KGoto (tgt := 68) C dL_isSo_64 (by decide) ?_
    refine KIstore (lv' := [(9, .int (iI 1)), (0, .ref (q 0)), (1, .int (iI e9)), (2, .ref (q 81)), (3, .ref (q 82)), (4, .ref (q 83)), (5, .ref (q 84)), (6, .ref (q 87)), (7, .ref (q 88)), (8, .ref (q 80))]) C dL_isSo_68 (by decide) rfl ?_
    refine KIconst C dL_isSo_70 ?_
    refine KIstore (lv' := [(10, .int (iI 0)), (9, .int (iI 1)), (0, .ref (q 0)), (1, .int (iI e9)), (2, .ref (q 81)), (3, .ref (q 82)), (4, .ref (q 83)), (5, .ref (q 84)), (6, .ref (q 87)), (7, .ref (q 88)), (8, .ref (q 80))]) C dL_isSo_71 (by decide) rfl ?_
    refine KLv (lv' := [(0, .ref (q 0)), (1, .int (iI e9)), (2, .ref (q 81)), (3, .ref (q 82)), (4, .ref (q 83)), (5, .ref (q 84)), (6, .ref (q 87)), (7, .ref (q 88)), (8, .ref (q 80)), (9, .int (iI 1)), (10, .int (iI 0))]) [2, 3, 4, 5, 6, 7, 8, 9, 10, 1, 0] rfl ?_
    refine KWiden (k := 2 * 0) (n := 12 * 0) (by omega) (by omega) ?_
    have loop73 : ∀ (nX : Nat) (k : Nat) (U : Sto), 20 - k < nX → (k ≤ 20) → (∃ R2, LI U q (gT g) z z R2) → Wk pX l eX (rmK 16 314 1884) sX mX argsX belowX methX cX (MQ belowX (QcG g (P_L_isSo S q e9 z R tt)) argsX sX 314 1884 (ge (gB g))) g 15 (2 * k) (12 * k) 73 [(0, .ref (q 0)), (1, .int (iI e9)), (2, .ref (q 81)), (3, .ref (q 82)), (4, .ref (q 83)), (5, .ref (q 84)), (6, .ref (q 87)), (7, .ref (q 88)), (8, .ref (q 80)), (9, .int (iI 1)), (10, .int (iI (k : Int)))] [] U := by
      intro nX
      induction nX with
      | zero => intro k U hm; exact absurd hm (Nat.not_lt_zero _)
      | succ nX ih73 =>
        intro k U hm73 hk ehIa
        refine KRg (fun hR => ?_)
        obtain ⟨RhIa, hIa⟩ := ehIa
        refine KIload C dL_isSo_73 10 rfl ?_
        refine KBipush C dL_isSo_75 (by decide) ?_
        refine KIcmp_ge (tgt := 124) C dL_isSo_77 (by decide) ⟨by omega, by omega⟩ ⟨by omega, by omega⟩ (fun c77 => ?_) (fun c77 => ?_)
        · refine KIconst C dL_isSo_124 ?_
          refine KIstore (lv' := [(10, .int (iI 0)), (0, .ref (q 0)), (1, .int (iI e9)), (2, .ref (q 81)), (3, .ref (q 82)), (4, .ref (q 83)), (5, .ref (q 84)), (6, .ref (q 87)), (7, .ref (q 88)), (8, .ref (q 80)), (9, .int (iI 1))]) C dL_isSo_125 (by decide) rfl ?_
          refine KLv (lv' := [(0, .ref (q 0)), (1, .int (iI e9)), (2, .ref (q 81)), (3, .ref (q 82)), (4, .ref (q 83)), (5, .ref (q 84)), (6, .ref (q 87)), (7, .ref (q 88)), (8, .ref (q 80)), (9, .int (iI 1)), (10, .int (iI 0))]) [1, 2, 3, 4, 5, 6, 7, 8, 9, 10, 0] rfl ?_
          refine KWiden (k := 40 + 2 * 0) (n := 240 + 12 * 0) (by omega) (by omega) ?_
          have loop127 : ∀ (nX : Nat) (k : Nat) (U : Sto), zo z - k < nX → (k ≤ zo z) → (∃ R2, LI U q (gT g) z z R2) → Wk pX l eX (rmK 16 314 1884) sX mX argsX belowX methX cX (MQ belowX (QcG g (P_L_isSo S q e9 z R tt)) argsX sX 314 1884 (ge (gB g))) g 15 (40 + 2 * k) (240 + 12 * k) 127 [(0, .ref (q 0)), (1, .int (iI e9)), (2, .ref (q 81)), (3, .ref (q 82)), (4, .ref (q 83)), (5, .ref (q 84)), (6, .ref (q 87)), (7, .ref (q 88)), (8, .ref (q 80)), (9, .int (iI 1)), (10, .int (iI (k : Int)))] [] U := by
            intro nX
            induction nX with
            | zero => intro k U hm; exact absurd hm (Nat.not_lt_zero _)
            | succ nX ih127 =>
              intro k U hm127 hk ehIb
              refine KRg (fun hR => ?_)
              obtain ⟨RhIb, hIb⟩ := ehIb
              refine KIload C dL_isSo_127 10 rfl ?_
              refine KAload C dL_isSo_129 8 rfl ?_
              refine KIconst C dL_isSo_131 ?_
              refine KIald (S := U)  (v := (zo z : Int)) C 8 (hIb.1.at0 80 20) (hIb.1.ln0 80 8) ⟨by omega, by omega⟩ (by omega) hIb.q1 dL_isSo_132 ?_
              refine KIcmp_ge (tgt := 190) C dL_isSo_133 (by decide) ⟨by omega, by omega⟩ ⟨by omega, by omega⟩ (fun c133 => ?_) (fun c133 => ?_)
              · refine KIconst C dL_isSo_190 ?_
                refine KIstore (lv' := [(10, .int (iI 0)), (0, .ref (q 0)), (1, .int (iI e9)), (2, .ref (q 81)), (3, .ref (q 82)), (4, .ref (q 83)), (5, .ref (q 84)), (6, .ref (q 87)), (7, .ref (q 88)), (8, .ref (q 80)), (9, .int (iI 1))]) C dL_isSo_191 (by decide) rfl ?_
                refine KLv (lv' := [(0, .ref (q 0)), (1, .int (iI e9)), (2, .ref (q 81)), (3, .ref (q 82)), (4, .ref (q 83)), (5, .ref (q 84)), (6, .ref (q 87)), (7, .ref (q 88)), (8, .ref (q 80)), (9, .int (iI 1)), (10, .int (iI 0))]) [1, 2, 3, 4, 5, 6, 7, 8, 9, 10, 0] rfl ?_
                refine KWiden (k := 64 + 20 * 0) (n := 384 + 120 * 0) (by omega) (by omega) ?_
                have loop193 : ∀ (nX : Nat) (k : Nat) (U : Sto), zb z - k < nX → (k ≤ zb z) → (∃ R2, LI U q (gT g) z z R2) → Wk pX l eX (rmK 16 314 1884) sX mX argsX belowX methX cX (MQ belowX (QcG g (P_L_isSo S q e9 z R tt)) argsX sX 314 1884 (ge (gB g))) g 15 (64 + 20 * k) (384 + 120 * k) 193 [(0, .ref (q 0)), (1, .int (iI e9)), (2, .ref (q 81)), (3, .ref (q 82)), (4, .ref (q 83)), (5, .ref (q 84)), (6, .ref (q 87)), (7, .ref (q 88)), (8, .ref (q 80)), (9, .int (iI 1)), (10, .int (iI (k : Int)))] [] U := by
                  intro nX
                  induction nX with
                  | zero => intro k U hm; exact absurd hm (Nat.not_lt_zero _)
                  | succ nX ih193 =>
                    intro k U hm193 hk ehIc
                    refine KRg (fun hR => ?_)
                    obtain ⟨RhIc, hIc⟩ := ehIc
                    refine KIload C dL_isSo_193 10 rfl ?_
                    refine KAload C dL_isSo_195 8 rfl ?_
                    refine KIconst C dL_isSo_197 ?_
                    refine KIald (S := U)  (v := (zb z : Int)) C 8 (hIc.1.at0 80 20) (hIc.1.ln0 80 8) ⟨by omega, by omega⟩ (by omega) hIc.q2 dL_isSo_198 ?_
                    refine KIcmp_ge (tgt := 232) C dL_isSo_199 (by decide) ⟨by omega, by omega⟩ ⟨by omega, by omega⟩ (fun c199 => ?_) (fun c199 => ?_)
                    · refine KIconst C dL_isSo_232 ?_
                      refine KIstore (lv' := [(10, .int (iI 0)), (0, .ref (q 0)), (1, .int (iI e9)), (2, .ref (q 81)), (3, .ref (q 82)), (4, .ref (q 83)), (5, .ref (q 84)), (6, .ref (q 87)), (7, .ref (q 88)), (8, .ref (q 80)), (9, .int (iI 1))]) C dL_isSo_233 (by decide) rfl ?_
                      refine KLv (lv' := [(0, .ref (q 0)), (1, .int (iI e9)), (2, .ref (q 81)), (3, .ref (q 82)), (4, .ref (q 83)), (5, .ref (q 84)), (6, .ref (q 87)), (7, .ref (q 88)), (8, .ref (q 80)), (9, .int (iI 1)), (10, .int (iI 0))]) [1, 2, 3, 4, 5, 6, 7, 8, 9, 10, 0] rfl ?_
                      refine KWiden (k := 304 + 1 * 0) (n := 1824 + 6 * 0) (by omega) (by omega) ?_
                      have loop235 : ∀ (nX : Nat) (k : Nat) (U : Sto), (zA z).toNat - k < nX → ((k : Int) ≤ zA z) → (∃ R2, LI U q (gT g) z z R2) → Wk pX l eX (rmK 16 314 1884) sX mX argsX belowX methX cX (MQ belowX (QcG g (P_L_isSo S q e9 z R tt)) argsX sX 314 1884 (ge (gB g))) g 15 (304 + 1 * k) (1824 + 6 * k) 235 [(0, .ref (q 0)), (1, .int (iI e9)), (2, .ref (q 81)), (3, .ref (q 82)), (4, .ref (q 83)), (5, .ref (q 84)), (6, .ref (q 87)), (7, .ref (q 88)), (8, .ref (q 80)), (9, .int (iI 1)), (10, .int (iI (k : Int)))] [] U := by
                        intro nX
                        induction nX with
                        | zero => intro k U hm; exact absurd hm (Nat.not_lt_zero _)
                        | succ nX ih235 =>
                          intro k U hm235 hk ehId
                          refine KRg (fun hR => ?_)
                          obtain ⟨RhId, hId⟩ := ehId
                          refine KIload C dL_isSo_235 10 rfl ?_
                          refine KAload C dL_isSo_237 8 rfl ?_
                          refine KIconst C dL_isSo_239 ?_
                          refine KIald (S := U)  (v := zA z) C 8 (hId.1.at0 80 20) (hId.1.ln0 80 8) ⟨by omega, by omega⟩ (by omega) hId.q5 dL_isSo_240 ?_
                          refine KIcmp_ge (tgt := 364) C dL_isSo_241 (by decide) ⟨by omega, by omega⟩ ⟨by omega, by omega⟩ (fun c241 => ?_) (fun c241 => ?_)
                          · refine KIload_n C dL_isSo_364 rfl 1 rfl ?_
                            refine KBipush C dL_isSo_365 (by decide) ?_
                            refine KCallS (As := [.int (iI e9), .int (iI 20)]) (st := []) C (ct_L_low l g U e9 20 (by omega)) u_ml_RL_125 u_st_yL_low u_in_RL u_co_yL_low hd_yL_low ⟨Nat.le_of_ble_eq_true rfl, Nat.le_of_ble_eq_true rfl⟩ ⟨by show 304 + 1 * k + 0 ≤ 314; omega, by show 1824 + 6 * k + 0 ≤ 1884; omega⟩ (Nat.le_of_ble_eq_true rfl) dL_isSo_367 rfl (fun v367 u367 hp367 => ?_)
                            obtain ⟨rfl, rfl⟩ := hp367
                            refine KSt (st2 := [.int (iI ((lowN e9 20 : Nat) : Int))]) rfl ?_
                            obtain ⟨r367, hrd367⟩ : ∃ n9 : Nat, n9 = lowN e9 20 := ⟨_, rfl⟩
                            have hr367 := lowN_lt (x := e9) (n := 20) (by omega)
                            rw [← hrd367] at hr367
                            refine KTop (congrArg iI (show ((lowN e9 20 : Nat) : Int) = (r367 : Int) from (by rw [hrd367]))) ?_
                            refine KRg (fun hR => ?_)
                            refine KIstore (lv' := [(10, .int (iI (r367 : Int))), (0, .ref (q 0)), (1, .int (iI e9)), (2, .ref (q 81)), (3, .ref (q 82)), (4, .ref (q 83)), (5, .ref (q 84)), (6, .ref (q 87)), (7, .ref (q 88)), (8, .ref (q 80)), (9, .int (iI 1))]) C dL_isSo_370 (by decide) rfl ?_
                            refine KIload_n C dL_isSo_372 rfl 2 rfl ?_
                            refine KIconst C dL_isSo_373 ?_
                            refine KIshr (v := iI ((iI e9 >>> (iI 5 &&& 31)).toInt)) C dL_isSo_374 (iI_of _).symm ?_
                            refine KBipush C dL_isSo_375 (by decide) ?_
                            refine KCallS (As := [.int (iI ((iI e9 >>> (iI 5 &&& 31)).toInt)), .int (iI 20)]) (st := []) C (ct_L_low l g U ((iI e9 >>> (iI 5 &&& 31)).toInt) 20 (by omega)) u_ml_RL_125 u_st_yL_low u_in_RL u_co_yL_low hd_yL_low ⟨Nat.le_of_ble_eq_true rfl, Nat.le_of_ble_eq_true rfl⟩ ⟨by show 304 + 1 * k + 0 ≤ 314; omega, by show 1824 + 6 * k + 0 ≤ 1884; omega⟩ (Nat.le_of_ble_eq_true rfl) dL_isSo_377 rfl (fun v377 u377 hp377 => ?_)
                            obtain ⟨rfl, rfl⟩ := hp377
                            refine KSt (st2 := [.int (iI ((lowN ((iI e9 >>> (iI 5 &&& 31)).toInt) 20 : Nat) : Int))]) rfl ?_
                            obtain ⟨r377, hrd377⟩ : ∃ n9 : Nat, n9 = lowN ((iI e9 >>> (iI 5 &&& 31)).toInt) 20 := ⟨_, rfl⟩
                            have hr377 := lowN_lt (x := ((iI e9 >>> (iI 5 &&& 31)).toInt)) (n := 20) (by omega)
                            rw [← hrd377] at hr377
                            refine KTop (congrArg iI (show ((lowN ((iI e9 >>> (iI 5 &&& 31)).toInt) 20 : Nat) : Int) = (r377 : Int) from (by rw [hrd377]))) ?_
                            refine KRg (fun hR => ?_)
                            refine KIstore (lv' := [(11, .int (iI (r377 : Int))), (10, .int (iI (r367 : Int))), (0, .ref (q 0)), (1, .int (iI e9)), (2, .ref (q 81)), (3, .ref (q 82)), (4, .ref (q 83)), (5, .ref (q 84)), (6, .ref (q 87)), (7, .ref (q 88)), (8, .ref (q 80)), (9, .int (iI 1))]) C dL_isSo_380 (by decide) rfl ?_
                            refine KAload C dL_isSo_382 10 rfl ?_
                            refine KIconst C dL_isSo_384 ?_
                            refine KIald (S := U)  (v := (zo z : Int)) C 8 (hId.1.at0 80 20) (hId.1.ln0 80 8) ⟨by omega, by omega⟩ (by omega) hId.q1 dL_isSo_385 ?_
                            refine KIf_ne (tgt := 393) C dL_isSo_386 (by decide) ⟨by omega, by omega⟩ (fun c386 => ?_) (fun c386 => ?_)
                            · refine KIload_n C dL_isSo_393 rfl 3 rfl ?_
                              refine KBipush C dL_isSo_394 (by decide) ?_
                              refine KIshr (v := iI ((iI e9 >>> (iI 9 &&& 31)).toInt)) C dL_isSo_396 (iI_of _).symm ?_
                              refine KAload C dL_isSo_397 10 rfl ?_
                              refine KIconst C dL_isSo_399 ?_
                              refine KIald (S := U)  (v := (zo z : Int)) C 8 (hId.1.at0 80 20) (hId.1.ln0 80 8) ⟨by omega, by omega⟩ (by omega) hId.q1 dL_isSo_400 ?_
                              refine KCallS (As := [.int (iI ((iI e9 >>> (iI 9 &&& 31)).toInt)), .int (iI (zo z : Int))]) (st := []) C (ct_L_low l g U ((iI e9 >>> (iI 9 &&& 31)).toInt) (zo z : Int) (by omega)) u_ml_RL_125 u_st_yL_low u_in_RL u_co_yL_low hd_yL_low ⟨Nat.le_of_ble_eq_true rfl, Nat.le_of_ble_eq_true rfl⟩ ⟨by show 304 + 1 * k + 0 ≤ 314; omega, by show 1824 + 6 * k + 0 ≤ 1884; omega⟩ (Nat.le_of_ble_eq_true rfl) dL_isSo_401 rfl (fun v401 u401 hp401 => ?_)
                              obtain ⟨rfl, rfl⟩ := hp401
                              refine KSt (st2 := [.int (iI ((lowN ((iI e9 >>> (iI 9 &&& 31)).toInt) (zo z : Int) : Nat) : Int))]) rfl ?_
                              obtain ⟨r401, hrd401⟩ : ∃ n9 : Nat, n9 = lowN ((iI e9 >>> (iI 9 &&& 31)).toInt) (zo z : Int) := ⟨_, rfl⟩
                              have hr401 := lowN_lt (x := ((iI e9 >>> (iI 9 &&& 31)).toInt)) (n := (zo z : Int)) (by omega)
                              rw [← hrd401] at hr401
                              refine KTop (congrArg iI (show ((lowN ((iI e9 >>> (iI 9 &&& 31)).toInt) (zo z : Int) : Nat) : Int) = (r401 : Int) from (by rw [hrd401]))) ?_
                              refine KRg (fun hR => ?_)
                              refine KIstore (lv' := [(12, .int (iI (r401 : Int))), (11, .int (iI (r377 : Int))), (10, .int (iI (r367 : Int))), (0, .ref (q 0)), (1, .int (iI e9)), (2, .ref (q 81)), (3, .ref (q 82)), (4, .ref (q 83)), (5, .ref (q 84)), (6, .ref (q 87)), (7, .ref (q 88)), (8, .ref (q 80)), (9, .int (iI 1))]) C dL_isSo_404 (by decide) rfl ?_
                              refine KIload C dL_isSo_406 12 rfl ?_
                              refine KIf_eq (tgt := 494) C dL_isSo_408 (by decide) ⟨by omega, by omega⟩ (fun h => absurd h (by decide)) (fun _ => ?_)
                              refine KAload_n C dL_isSo_411 rfl 3 rfl ?_
                              refine KBipush C dL_isSo_412 (by decide) ?_
                              refine KIload C dL_isSo_414 2 rfl ?_
                              refine KIload C dL_isSo_416 1 rfl ?_
                              refine KIconst C dL_isSo_418 ?_
                              by_cases hno : zP z (r367 : Int) = -1 ∨ zP z (r377 : Int) = -1
                              · refine KCallSH (As := [.ref (q 0), .int (iI 6), .int (iI (r367 : Int)), .int (iI (r377 : Int)), .int (iI 0)]) (st := []) C hnc (ct_L_calls_distance l g hnt U q (r367 : Int) (r377 : Int) 0 z hId.1 hW hId.2.1 ⟨by omega, by omega⟩ ⟨by omega, by omega⟩ (gT g) rfl) u_ml_RL_89 u_st_yL_calls u_in_RL u_cw_calls hd_yL_calls ⟨Nat.le_of_ble_eq_true rfl, Nat.le_of_ble_eq_true rfl⟩ ⟨by show 304 + 1 * k + 3 ≤ 314; omega, by show 1824 + 6 * k + 18 ≤ 1884; omega⟩ (Nat.le_of_ble_eq_true rfl) dL_isSo_419 rfl (fun v419 u419 hp419 => ?_)
                                obtain ⟨rfl, hc419⟩ := hp419.no (ho_Dx (by omega) (by omega) hno) (by decide) (by decide : _ = ((-3) : Int))
                                have hI419 := hId.cp hc419
                                refine KSt (st2 := [.int (iI (-3))]) rfl ?_
                                refine KRg (fun hR => ?_)
                                have hp1 := hW.plI (x := (r367 : Int)) (by omega)
                                have hp2 := hW.plI (x := (r377 : Int)) (by omega)
                                refine KAload_n C dL_isSo_422 rfl 5 rfl ?_
                                refine KIload C dL_isSo_423 2 rfl ?_
                                refine KIald (S := u419)  (v := zP z (r367 : Int)) C 20 (hI419.1.at0 81 20) (hI419.1.ln0 81 20) ⟨by omega, by omega⟩ (by omega) (congrFun hI419.P _) dL_isSo_425 ?_
                                refine KIf_lt (tgt := 436) C dL_isSo_426 (by decide) ⟨by omega, by omega⟩ (fun c426 => ?_) (fun c426 => ?_)
                                · refine KBipush C dL_isSo_436 (by decide) ?_
                                  refine KGoto (tgt := 454) C dL_isSo_438 (by decide) ?_
                                  refine KIcmp_ne (tgt := 494) C dL_isSo_454 (by decide) ⟨by omega, by omega⟩ ⟨by omega, by omega⟩ (fun h => absurd h (by decide)) (fun _ => ?_)
                                  refine KIload C dL_isSo_457 0 rfl ?_
                                  refine KIf_lt (tgt := 490) C dL_isSo_459 (by decide) ⟨by omega, by omega⟩ (fun c459 => absurd c459 (by omega)) (fun c459 => ?_)
                                  refine KAload_n C dL_isSo_462 rfl 3 rfl ?_
                                  refine KIload C dL_isSo_463 0 rfl ?_
                                  refine KCallVC (As := [.int (iI (r401 : Int))]) (b := q 0) (st := []) C (ct_X5_lengthAlone l g hnt u419 q (r401 : Int) z hI419.1 hW (hI419.2.1) (⟨by omega, by omega⟩) (gT g) rfl) u_ml_RL_128 u_im_yX5_lengthAlone u_se_yX5_lengthAlone u_in_RX5 u_co_yX5_lengthAlone hd_yX5_lengthAlone (hI419.1.at0 0 6) (by decide) rfl rfl ⟨Nat.le_of_ble_eq_true rfl, Nat.le_of_ble_eq_true rfl⟩ ⟨by show 304 + 1 * k + 3 + 1 ≤ 314; omega, by show 1824 + 6 * k + 18 + 6 ≤ 1884; omega⟩ (Nat.le_of_ble_eq_true rfl) dL_isSo_465 rfl (fun E9 u9 hx9 => False.elim (by obtain ⟨hc9, -⟩ := hx9; rw [(ho_La (show r401 < zo z by omega))] at hc9; simp at hc9)) (fun v465 u465 hp465 => ?_)
                                  obtain ⟨r465, z465, ho465, rfl, hc465⟩ := hp465
                                  rw [(ho_La (show r401 < zo z by omega))] at ho465; cases ho465
                                  have hI465 := hI419.cp hc465
                                  refine KSt (st2 := [.int (iI (zto z (zW z r401)))]) rfl ?_
                                  refine KRg (fun hR => ?_)
                                  have hmW := hW.okW (show r401 < zo z by omega)
                                  have hbW := zto_b hW hmW
                                  refine KIload C dL_isSo_468 0 rfl ?_
                                  refine KAload C dL_isSo_470 7 rfl ?_
                                  refine KAload C dL_isSo_472 8 rfl ?_
                                  refine KCallS (As := [.int (iI (r401 : Int)), .ref (q 83), .ref (q 84)]) (st := [.int (iI (zto z (zW z r401)))]) C (ct_L_wanted l g u465 q r401 z hI465.1 hW.wl (hI465.m3) (hI465.pr) h12 (show r401 < zo z by omega)) u_ml_RL_46 u_st_yL_wanted u_in_RL u_co_yL_wanted hd_yL_wanted ⟨Nat.le_of_ble_eq_true rfl, Nat.le_of_ble_eq_true rfl⟩ ⟨by show 304 + 1 * k + 3 + 1 + 0 ≤ 314; omega, by show 1824 + 6 * k + 18 + 6 + 0 ≤ 1884; omega⟩ (Nat.le_of_ble_eq_true rfl) dL_isSo_474 rfl (fun v474 u474 hp474 => ?_)
                                  obtain ⟨rfl, rfl⟩ := hp474
                                  refine KSt (st2 := [.int (iI ((zW z r401 : Nat) : Int)), .int (iI (zto z (zW z r401)))]) rfl ?_
                                  refine KRg (fun hR => ?_)
                                  refine KAload_n C dL_isSo_477 rfl 5 rfl ?_
                                  refine KAload C dL_isSo_478 9 rfl ?_
                                  refine KAload C dL_isSo_480 10 rfl ?_
                                  refine KAload C dL_isSo_482 11 rfl ?_
                                  refine KCallS (As := [.int (iI ((zW z r401 : Nat) : Int)), .ref (q 81), .ref (q 87), .ref (q 88), .ref (q 80)]) (st := [.int (iI (zto z (zW z r401)))]) C (ct_L_route l g u465 q (zW z r401) (zN z) (zG z) (zP z) hI465.1 (hI465.2.2.1.1.2.2.2.2.2.2.1) (hI465.2.2.1.1.2.2.2.2.2.2.2) (hI465.2.2.1.2.1.1) (by omega) (by omega) hmW (hW.ds hmW) (sl6_w hW (show r401 < zo z by omega))) u_ml_RL_67 u_st_yL_route u_in_RL u_co_yL_route hd_yL_route ⟨Nat.le_of_ble_eq_true rfl, Nat.le_of_ble_eq_true rfl⟩ ⟨by show 304 + 1 * k + 3 + 1 + 0 ≤ 314; omega, by show 1824 + 6 * k + 18 + 6 + 0 ≤ 1884; omega⟩ (Nat.le_of_ble_eq_true rfl) dL_isSo_484 rfl (fun v484 u484 hp484 => ?_)
                                  obtain ⟨rfl, f484, rfl, hKR484, hw0484, hwj484⟩ := hp484
                                  refine KSt (st2 := [.int (iI (tour (zN z) (zG z) (zP z) (zW z r401))), .int (iI (zto z (zW z r401)))]) rfl ?_
                                  have hI484 := hI465.kr hKR484
                                  refine KRg (fun hR => ?_)
                                  refine KTop (congrArg iI (show tour (zN z) (zG z) (zP z) (zW z r401) = zto z (zW z r401) from rfl)) ?_
                                  refine KIcmp_ne (tgt := 494) C dL_isSo_487 (by decide) ⟨by omega, by omega⟩ ⟨by omega, by omega⟩ (fun c487 => absurd c487 (fun h9 => h9 rfl)) (fun c487 => ?_)
                                  refine KIconst C dL_isSo_490 ?_
                                  refine KGoto (tgt := 495) C dL_isSo_491 (by decide) ?_
                                  refine KIret C rfl rfl (by
                                    exact ⟨rfl, _, by rw [htt]; exact hI484⟩) (by first | decide | omega) (by first | decide | omega) dL_isSo_495
                                · refine KAload_n C dL_isSo_429 rfl 5 rfl ?_
                                  refine KIload C dL_isSo_430 1 rfl ?_
                                  refine KIald (S := u419)  (v := zP z (r377 : Int)) C 20 (hI419.1.at0 81 20) (hI419.1.ln0 81 20) ⟨by omega, by omega⟩ (by omega) (congrFun hI419.P _) dL_isSo_432 ?_
                                  refine KIf_ge (tgt := 441) C dL_isSo_433 (by decide) ⟨by omega, by omega⟩ (fun c433 => absurd c433 (by omega)) (fun c433 => ?_)
                                  refine KBipush C dL_isSo_436 (by decide) ?_
                                  refine KGoto (tgt := 454) C dL_isSo_438 (by decide) ?_
                                  refine KIcmp_ne (tgt := 494) C dL_isSo_454 (by decide) ⟨by omega, by omega⟩ ⟨by omega, by omega⟩ (fun h => absurd h (by decide)) (fun _ => ?_)
                                  refine KIload C dL_isSo_457 0 rfl ?_
                                  refine KIf_lt (tgt := 490) C dL_isSo_459 (by decide) ⟨by omega, by omega⟩ (fun c459 => absurd c459 (by omega)) (fun c459 => ?_)
                                  refine KAload_n C dL_isSo_462 rfl 3 rfl ?_
                                  refine KIload C dL_isSo_463 0 rfl ?_
                                  refine KCallVC (As := [.int (iI (r401 : Int))]) (b := q 0) (st := []) C (ct_X5_lengthAlone l g hnt u419 q (r401 : Int) z hI419.1 hW (hI419.2.1) (⟨by omega, by omega⟩) (gT g) rfl) u_ml_RL_128 u_im_yX5_lengthAlone u_se_yX5_lengthAlone u_in_RX5 u_co_yX5_lengthAlone hd_yX5_lengthAlone (hI419.1.at0 0 6) (by decide) rfl rfl ⟨Nat.le_of_ble_eq_true rfl, Nat.le_of_ble_eq_true rfl⟩ ⟨by show 304 + 1 * k + 3 + 1 ≤ 314; omega, by show 1824 + 6 * k + 18 + 6 ≤ 1884; omega⟩ (Nat.le_of_ble_eq_true rfl) dL_isSo_465 rfl (fun E9 u9 hx9 => False.elim (by obtain ⟨hc9, -⟩ := hx9; rw [(ho_La (show r401 < zo z by omega))] at hc9; simp at hc9)) (fun v465 u465 hp465 => ?_)
                                  obtain ⟨r465, z465, ho465, rfl, hc465⟩ := hp465
                                  rw [(ho_La (show r401 < zo z by omega))] at ho465; cases ho465
                                  have hI465 := hI419.cp hc465
                                  refine KSt (st2 := [.int (iI (zto z (zW z r401)))]) rfl ?_
                                  refine KRg (fun hR => ?_)
                                  have hmW := hW.okW (show r401 < zo z by omega)
                                  have hbW := zto_b hW hmW
                                  refine KIload C dL_isSo_468 0 rfl ?_
                                  refine KAload C dL_isSo_470 7 rfl ?_
                                  refine KAload C dL_isSo_472 8 rfl ?_
                                  refine KCallS (As := [.int (iI (r401 : Int)), .ref (q 83), .ref (q 84)]) (st := [.int (iI (zto z (zW z r401)))]) C (ct_L_wanted l g u465 q r401 z hI465.1 hW.wl (hI465.m3) (hI465.pr) h12 (show r401 < zo z by omega)) u_ml_RL_46 u_st_yL_wanted u_in_RL u_co_yL_wanted hd_yL_wanted ⟨Nat.le_of_ble_eq_true rfl, Nat.le_of_ble_eq_true rfl⟩ ⟨by show 304 + 1 * k + 3 + 1 + 0 ≤ 314; omega, by show 1824 + 6 * k + 18 + 6 + 0 ≤ 1884; omega⟩ (Nat.le_of_ble_eq_true rfl) dL_isSo_474 rfl (fun v474 u474 hp474 => ?_)
                                  obtain ⟨rfl, rfl⟩ := hp474
                                  refine KSt (st2 := [.int (iI ((zW z r401 : Nat) : Int)), .int (iI (zto z (zW z r401)))]) rfl ?_
                                  refine KRg (fun hR => ?_)
                                  refine KAload_n C dL_isSo_477 rfl 5 rfl ?_
                                  refine KAload C dL_isSo_478 9 rfl ?_
                                  refine KAload C dL_isSo_480 10 rfl ?_
                                  refine KAload C dL_isSo_482 11 rfl ?_
                                  refine KCallS (As := [.int (iI ((zW z r401 : Nat) : Int)), .ref (q 81), .ref (q 87), .ref (q 88), .ref (q 80)]) (st := [.int (iI (zto z (zW z r401)))]) C (ct_L_route l g u465 q (zW z r401) (zN z) (zG z) (zP z) hI465.1 (hI465.2.2.1.1.2.2.2.2.2.2.1) (hI465.2.2.1.1.2.2.2.2.2.2.2) (hI465.2.2.1.2.1.1) (by omega) (by omega) hmW (hW.ds hmW) (sl6_w hW (show r401 < zo z by omega))) u_ml_RL_67 u_st_yL_route u_in_RL u_co_yL_route hd_yL_route ⟨Nat.le_of_ble_eq_true rfl, Nat.le_of_ble_eq_true rfl⟩ ⟨by show 304 + 1 * k + 3 + 1 + 0 ≤ 314; omega, by show 1824 + 6 * k + 18 + 6 + 0 ≤ 1884; omega⟩ (Nat.le_of_ble_eq_true rfl) dL_isSo_484 rfl (fun v484 u484 hp484 => ?_)
                                  obtain ⟨rfl, f484, rfl, hKR484, hw0484, hwj484⟩ := hp484
                                  refine KSt (st2 := [.int (iI (tour (zN z) (zG z) (zP z) (zW z r401))), .int (iI (zto z (zW z r401)))]) rfl ?_
                                  have hI484 := hI465.kr hKR484
                                  refine KRg (fun hR => ?_)
                                  refine KTop (congrArg iI (show tour (zN z) (zG z) (zP z) (zW z r401) = zto z (zW z r401) from rfl)) ?_
                                  refine KIcmp_ne (tgt := 494) C dL_isSo_487 (by decide) ⟨by omega, by omega⟩ ⟨by omega, by omega⟩ (fun c487 => absurd c487 (fun h9 => h9 rfl)) (fun c487 => ?_)
                                  refine KIconst C dL_isSo_490 ?_
                                  refine KGoto (tgt := 495) C dL_isSo_491 (by decide) ?_
                                  refine KIret C rfl rfl (by
                                    exact ⟨rfl, _, by rw [htt]; exact hI484⟩) (by first | decide | omega) (by first | decide | omega) dL_isSo_495
                              · refine KCallSH (As := [.ref (q 0), .int (iI 6), .int (iI (r367 : Int)), .int (iI (r377 : Int)), .int (iI 0)]) (st := []) C hnc (ct_L_calls_distance l g hnt U q (r367 : Int) (r377 : Int) 0 z hId.1 hW hId.2.1 ⟨by omega, by omega⟩ ⟨by omega, by omega⟩ (gT g) rfl) u_ml_RL_89 u_st_yL_calls u_in_RL u_cw_calls hd_yL_calls ⟨Nat.le_of_ble_eq_true rfl, Nat.le_of_ble_eq_true rfl⟩ ⟨by show 304 + 1 * k + 3 ≤ 314; omega, by show 1824 + 6 * k + 18 ≤ 1884; omega⟩ (Nat.le_of_ble_eq_true rfl) dL_isSo_419 rfl (fun v419 u419 hp419 => ?_)
                                obtain ⟨rfl, hc419⟩ := hp419.ok (ho_Di (by omega) (by omega) hno)
                                have hI419 := hId.cp hc419
                                refine KSt (st2 := [.int (iI (dst (zN z) (zG z) (zP z (r367 : Int)) (zP z (r377 : Int))))]) rfl ?_
                                refine KRg (fun hR => ?_)
                                have hp1 := hW.plI (x := (r367 : Int)) (by omega)
                                have hp2 := hW.plI (x := (r377 : Int)) (by omega)
                                have hdb := dst_b (N := zN z) (G := zG z) (x := zP z (r367 : Int)) (y := zP z (r377 : Int)) ⟨by omega, by omega⟩ ⟨by omega, by omega⟩ ⟨by omega, by omega, by omega⟩ ⟨by omega, by omega, by omega⟩ (by omega) (by omega)
                                refine KAload_n C dL_isSo_422 rfl 5 rfl ?_
                                refine KIload C dL_isSo_423 2 rfl ?_
                                refine KIald (S := u419)  (v := zP z (r367 : Int)) C 20 (hI419.1.at0 81 20) (hI419.1.ln0 81 20) ⟨by omega, by omega⟩ (by omega) (congrFun hI419.P _) dL_isSo_425 ?_
                                refine KIf_lt (tgt := 436) C dL_isSo_426 (by decide) ⟨by omega, by omega⟩ (fun c426 => absurd c426 (by omega)) (fun c426 => ?_)
                                refine KAload_n C dL_isSo_429 rfl 5 rfl ?_
                                refine KIload C dL_isSo_430 1 rfl ?_
                                refine KIald (S := u419)  (v := zP z (r377 : Int)) C 20 (hI419.1.at0 81 20) (hI419.1.ln0 81 20) ⟨by omega, by omega⟩ (by omega) (congrFun hI419.P _) dL_isSo_432 ?_
                                refine KIf_ge (tgt := 441) C dL_isSo_433 (by decide) ⟨by omega, by omega⟩ (fun c433 => ?_) (fun c433 => absurd c433 (by omega))
                                refine KAload_n C dL_isSo_441 rfl 5 rfl ?_
                                refine KIload C dL_isSo_442 2 rfl ?_
                                refine KIald (S := u419)  (v := zP z (r367 : Int)) C 20 (hI419.1.at0 81 20) (hI419.1.ln0 81 20) ⟨by omega, by omega⟩ (by omega) (congrFun hI419.P _) dL_isSo_444 ?_
                                refine KAload_n C dL_isSo_445 rfl 5 rfl ?_
                                refine KIload C dL_isSo_446 1 rfl ?_
                                refine KIald (S := u419)  (v := zP z (r377 : Int)) C 20 (hI419.1.at0 81 20) (hI419.1.ln0 81 20) ⟨by omega, by omega⟩ (by omega) (congrFun hI419.P _) dL_isSo_448 ?_
                                refine KAload C dL_isSo_449 11 rfl ?_
                                refine KCallS (As := [.int (iI (zP z (r367 : Int))), .int (iI (zP z (r377 : Int))), .ref (q 80)]) (st := [.int (iI (dst (zN z) (zG z) (zP z (r367 : Int)) (zP z (r377 : Int))))]) C (ct_L_way l g u419 q (zP z (r367 : Int)) (zP z (r377 : Int)) (zN z) (zG z) hI419.1 (hI419.q6) (hI419.q7) (by omega) (by omega) (by omega) (by omega)) u_ml_RL_52 u_st_yL_way u_in_RL u_co_yL_way hd_yL_way ⟨Nat.le_of_ble_eq_true rfl, Nat.le_of_ble_eq_true rfl⟩ ⟨by show 304 + 1 * k + 3 + 0 ≤ 314; omega, by show 1824 + 6 * k + 18 + 0 ≤ 1884; omega⟩ (Nat.le_of_ble_eq_true rfl) dL_isSo_451 rfl (fun v451 u451 hp451 => ?_)
                                obtain ⟨rfl, rfl⟩ := hp451
                                refine KSt (st2 := [.int (iI (dst (zN z) (zG z) (zP z (r367 : Int)) (zP z (r377 : Int)))), .int (iI (dst (zN z) (zG z) (zP z (r367 : Int)) (zP z (r377 : Int))))]) rfl ?_
                                refine KRg (fun hR => ?_)
                                refine KIcmp_ne (tgt := 494) C dL_isSo_454 (by decide) ⟨by omega, by omega⟩ ⟨by omega, by omega⟩ (fun c454 => absurd c454 (fun h9 => h9 rfl)) (fun c454 => ?_)
                                refine KIload C dL_isSo_457 0 rfl ?_
                                refine KIf_lt (tgt := 490) C dL_isSo_459 (by decide) ⟨by omega, by omega⟩ (fun c459 => absurd c459 (by omega)) (fun c459 => ?_)
                                refine KAload_n C dL_isSo_462 rfl 3 rfl ?_
                                refine KIload C dL_isSo_463 0 rfl ?_
                                refine KCallVC (As := [.int (iI (r401 : Int))]) (b := q 0) (st := []) C (ct_X5_lengthAlone l g hnt u419 q (r401 : Int) z hI419.1 hW (hI419.2.1) (⟨by omega, by omega⟩) (gT g) rfl) u_ml_RL_128 u_im_yX5_lengthAlone u_se_yX5_lengthAlone u_in_RX5 u_co_yX5_lengthAlone hd_yX5_lengthAlone (hI419.1.at0 0 6) (by decide) rfl rfl ⟨Nat.le_of_ble_eq_true rfl, Nat.le_of_ble_eq_true rfl⟩ ⟨by show 304 + 1 * k + 3 + 1 ≤ 314; omega, by show 1824 + 6 * k + 18 + 6 ≤ 1884; omega⟩ (Nat.le_of_ble_eq_true rfl) dL_isSo_465 rfl (fun E9 u9 hx9 => False.elim (by obtain ⟨hc9, -⟩ := hx9; rw [(ho_La (show r401 < zo z by omega))] at hc9; simp at hc9)) (fun v465 u465 hp465 => ?_)
                                obtain ⟨r465, z465, ho465, rfl, hc465⟩ := hp465
                                rw [(ho_La (show r401 < zo z by omega))] at ho465; cases ho465
                                have hI465 := hI419.cp hc465
                                refine KSt (st2 := [.int (iI (zto z (zW z r401)))]) rfl ?_
                                refine KRg (fun hR => ?_)
                                have hmW := hW.okW (show r401 < zo z by omega)
                                have hbW := zto_b hW hmW
                                refine KIload C dL_isSo_468 0 rfl ?_
                                refine KAload C dL_isSo_470 7 rfl ?_
                                refine KAload C dL_isSo_472 8 rfl ?_
                                refine KCallS (As := [.int (iI (r401 : Int)), .ref (q 83), .ref (q 84)]) (st := [.int (iI (zto z (zW z r401)))]) C (ct_L_wanted l g u465 q r401 z hI465.1 hW.wl (hI465.m3) (hI465.pr) h12 (show r401 < zo z by omega)) u_ml_RL_46 u_st_yL_wanted u_in_RL u_co_yL_wanted hd_yL_wanted ⟨Nat.le_of_ble_eq_true rfl, Nat.le_of_ble_eq_true rfl⟩ ⟨by show 304 + 1 * k + 3 + 1 + 0 ≤ 314; omega, by show 1824 + 6 * k + 18 + 6 + 0 ≤ 1884; omega⟩ (Nat.le_of_ble_eq_true rfl) dL_isSo_474 rfl (fun v474 u474 hp474 => ?_)
                                obtain ⟨rfl, rfl⟩ := hp474
                                refine KSt (st2 := [.int (iI ((zW z r401 : Nat) : Int)), .int (iI (zto z (zW z r401)))]) rfl ?_
                                refine KRg (fun hR => ?_)
                                refine KAload_n C dL_isSo_477 rfl 5 rfl ?_
                                refine KAload C dL_isSo_478 9 rfl ?_
                                refine KAload C dL_isSo_480 10 rfl ?_
                                refine KAload C dL_isSo_482 11 rfl ?_
                                refine KCallS (As := [.int (iI ((zW z r401 : Nat) : Int)), .ref (q 81), .ref (q 87), .ref (q 88), .ref (q 80)]) (st := [.int (iI (zto z (zW z r401)))]) C (ct_L_route l g u465 q (zW z r401) (zN z) (zG z) (zP z) hI465.1 (hI465.2.2.1.1.2.2.2.2.2.2.1) (hI465.2.2.1.1.2.2.2.2.2.2.2) (hI465.2.2.1.2.1.1) (by omega) (by omega) hmW (hW.ds hmW) (sl6_w hW (show r401 < zo z by omega))) u_ml_RL_67 u_st_yL_route u_in_RL u_co_yL_route hd_yL_route ⟨Nat.le_of_ble_eq_true rfl, Nat.le_of_ble_eq_true rfl⟩ ⟨by show 304 + 1 * k + 3 + 1 + 0 ≤ 314; omega, by show 1824 + 6 * k + 18 + 6 + 0 ≤ 1884; omega⟩ (Nat.le_of_ble_eq_true rfl) dL_isSo_484 rfl (fun v484 u484 hp484 => ?_)
                                obtain ⟨rfl, f484, rfl, hKR484, hw0484, hwj484⟩ := hp484
                                refine KSt (st2 := [.int (iI (tour (zN z) (zG z) (zP z) (zW z r401))), .int (iI (zto z (zW z r401)))]) rfl ?_
                                have hI484 := hI465.kr hKR484
                                refine KRg (fun hR => ?_)
                                refine KTop (congrArg iI (show tour (zN z) (zG z) (zP z) (zW z r401) = zto z (zW z r401) from rfl)) ?_
                                refine KIcmp_ne (tgt := 494) C dL_isSo_487 (by decide) ⟨by omega, by omega⟩ ⟨by omega, by omega⟩ (fun c487 => absurd c487 (fun h9 => h9 rfl)) (fun c487 => ?_)
                                refine KIconst C dL_isSo_490 ?_
                                refine KGoto (tgt := 495) C dL_isSo_491 (by decide) ?_
                                refine KIret C rfl rfl (by
                                  exact ⟨rfl, _, by rw [htt]; exact hI484⟩) (by first | decide | omega) (by first | decide | omega) dL_isSo_495
                            · refine KIconst C dL_isSo_389 ?_
                              refine KGoto (tgt := 404) C dL_isSo_390 (by decide) ?_
                              refine KIstore (lv' := [(12, .int (iI (-1))), (11, .int (iI (r377 : Int))), (10, .int (iI (r367 : Int))), (0, .ref (q 0)), (1, .int (iI e9)), (2, .ref (q 81)), (3, .ref (q 82)), (4, .ref (q 83)), (5, .ref (q 84)), (6, .ref (q 87)), (7, .ref (q 88)), (8, .ref (q 80)), (9, .int (iI 1))]) C dL_isSo_404 (by decide) rfl ?_
                              refine KIload C dL_isSo_406 12 rfl ?_
                              refine KIf_eq (tgt := 494) C dL_isSo_408 (by decide) ⟨by omega, by omega⟩ (fun h => absurd h (by decide)) (fun _ => ?_)
                              refine KAload_n C dL_isSo_411 rfl 3 rfl ?_
                              refine KBipush C dL_isSo_412 (by decide) ?_
                              refine KIload C dL_isSo_414 2 rfl ?_
                              refine KIload C dL_isSo_416 1 rfl ?_
                              refine KIconst C dL_isSo_418 ?_
                              by_cases hno : zP z (r367 : Int) = -1 ∨ zP z (r377 : Int) = -1
                              · refine KCallSH (As := [.ref (q 0), .int (iI 6), .int (iI (r367 : Int)), .int (iI (r377 : Int)), .int (iI 0)]) (st := []) C hnc (ct_L_calls_distance l g hnt U q (r367 : Int) (r377 : Int) 0 z hId.1 hW hId.2.1 ⟨by omega, by omega⟩ ⟨by omega, by omega⟩ (gT g) rfl) u_ml_RL_89 u_st_yL_calls u_in_RL u_cw_calls hd_yL_calls ⟨Nat.le_of_ble_eq_true rfl, Nat.le_of_ble_eq_true rfl⟩ ⟨by show 304 + 1 * k + 3 ≤ 314; omega, by show 1824 + 6 * k + 18 ≤ 1884; omega⟩ (Nat.le_of_ble_eq_true rfl) dL_isSo_419 rfl (fun v419 u419 hp419 => ?_)
                                obtain ⟨rfl, hc419⟩ := hp419.no (ho_Dx (by omega) (by omega) hno) (by decide) (by decide : _ = ((-3) : Int))
                                have hI419 := hId.cp hc419
                                refine KSt (st2 := [.int (iI (-3))]) rfl ?_
                                refine KRg (fun hR => ?_)
                                have hp1 := hW.plI (x := (r367 : Int)) (by omega)
                                have hp2 := hW.plI (x := (r377 : Int)) (by omega)
                                refine KAload_n C dL_isSo_422 rfl 5 rfl ?_
                                refine KIload C dL_isSo_423 2 rfl ?_
                                refine KIald (S := u419)  (v := zP z (r367 : Int)) C 20 (hI419.1.at0 81 20) (hI419.1.ln0 81 20) ⟨by omega, by omega⟩ (by omega) (congrFun hI419.P _) dL_isSo_425 ?_
                                refine KIf_lt (tgt := 436) C dL_isSo_426 (by decide) ⟨by omega, by omega⟩ (fun c426 => ?_) (fun c426 => ?_)
                                · refine KBipush C dL_isSo_436 (by decide) ?_
                                  refine KGoto (tgt := 454) C dL_isSo_438 (by decide) ?_
                                  refine KIcmp_ne (tgt := 494) C dL_isSo_454 (by decide) ⟨by omega, by omega⟩ ⟨by omega, by omega⟩ (fun h => absurd h (by decide)) (fun _ => ?_)
                                  refine KIload C dL_isSo_457 0 rfl ?_
                                  refine KIf_lt (tgt := 490) C dL_isSo_459 (by decide) ⟨by omega, by omega⟩ (fun _ => ?_) (fun h => absurd h (by decide))
                                  refine KIconst C dL_isSo_490 ?_
                                  refine KGoto (tgt := 495) C dL_isSo_491 (by decide) ?_
                                  refine KIret C rfl rfl (by
                                    exact ⟨rfl, _, by rw [htt]; exact hI419⟩) (by first | decide | omega) (by first | decide | omega) dL_isSo_495
                                · refine KAload_n C dL_isSo_429 rfl 5 rfl ?_
                                  refine KIload C dL_isSo_430 1 rfl ?_
                                  refine KIald (S := u419)  (v := zP z (r377 : Int)) C 20 (hI419.1.at0 81 20) (hI419.1.ln0 81 20) ⟨by omega, by omega⟩ (by omega) (congrFun hI419.P _) dL_isSo_432 ?_
                                  refine KIf_ge (tgt := 441) C dL_isSo_433 (by decide) ⟨by omega, by omega⟩ (fun c433 => absurd c433 (by omega)) (fun c433 => ?_)
                                  refine KBipush C dL_isSo_436 (by decide) ?_
                                  refine KGoto (tgt := 454) C dL_isSo_438 (by decide) ?_
                                  refine KIcmp_ne (tgt := 494) C dL_isSo_454 (by decide) ⟨by omega, by omega⟩ ⟨by omega, by omega⟩ (fun h => absurd h (by decide)) (fun _ => ?_)
                                  refine KIload C dL_isSo_457 0 rfl ?_
                                  refine KIf_lt (tgt := 490) C dL_isSo_459 (by decide) ⟨by omega, by omega⟩ (fun _ => ?_) (fun h => absurd h (by decide))
                                  refine KIconst C dL_isSo_490 ?_
                                  refine KGoto (tgt := 495) C dL_isSo_491 (by decide) ?_
                                  refine KIret C rfl rfl (by
                                    exact ⟨rfl, _, by rw [htt]; exact hI419⟩) (by first | decide | omega) (by first | decide | omega) dL_isSo_495
                              · refine KCallSH (As := [.ref (q 0), .int (iI 6), .int (iI (r367 : Int)), .int (iI (r377 : Int)), .int (iI 0)]) (st := []) C hnc (ct_L_calls_distance l g hnt U q (r367 : Int) (r377 : Int) 0 z hId.1 hW hId.2.1 ⟨by omega, by omega⟩ ⟨by omega, by omega⟩ (gT g) rfl) u_ml_RL_89 u_st_yL_calls u_in_RL u_cw_calls hd_yL_calls ⟨Nat.le_of_ble_eq_true rfl, Nat.le_of_ble_eq_true rfl⟩ ⟨by show 304 + 1 * k + 3 ≤ 314; omega, by show 1824 + 6 * k + 18 ≤ 1884; omega⟩ (Nat.le_of_ble_eq_true rfl) dL_isSo_419 rfl (fun v419 u419 hp419 => ?_)
                                obtain ⟨rfl, hc419⟩ := hp419.ok (ho_Di (by omega) (by omega) hno)
                                have hI419 := hId.cp hc419
                                refine KSt (st2 := [.int (iI (dst (zN z) (zG z) (zP z (r367 : Int)) (zP z (r377 : Int))))]) rfl ?_
                                refine KRg (fun hR => ?_)
                                have hp1 := hW.plI (x := (r367 : Int)) (by omega)
                                have hp2 := hW.plI (x := (r377 : Int)) (by omega)
                                have hdb := dst_b (N := zN z) (G := zG z) (x := zP z (r367 : Int)) (y := zP z (r377 : Int)) ⟨by omega, by omega⟩ ⟨by omega, by omega⟩ ⟨by omega, by omega, by omega⟩ ⟨by omega, by omega, by omega⟩ (by omega) (by omega)
                                refine KAload_n C dL_isSo_422 rfl 5 rfl ?_
                                refine KIload C dL_isSo_423 2 rfl ?_
                                refine KIald (S := u419)  (v := zP z (r367 : Int)) C 20 (hI419.1.at0 81 20) (hI419.1.ln0 81 20) ⟨by omega, by omega⟩ (by omega) (congrFun hI419.P _) dL_isSo_425 ?_
                                refine KIf_lt (tgt := 436) C dL_isSo_426 (by decide) ⟨by omega, by omega⟩ (fun c426 => absurd c426 (by omega)) (fun c426 => ?_)
                                refine KAload_n C dL_isSo_429 rfl 5 rfl ?_
                                refine KIload C dL_isSo_430 1 rfl ?_
                                refine KIald (S := u419)  (v := zP z (r377 : Int)) C 20 (hI419.1.at0 81 20) (hI419.1.ln0 81 20) ⟨by omega, by omega⟩ (by omega) (congrFun hI419.P _) dL_isSo_432 ?_
                                refine KIf_ge (tgt := 441) C dL_isSo_433 (by decide) ⟨by omega, by omega⟩ (fun c433 => ?_) (fun c433 => absurd c433 (by omega))
                                refine KAload_n C dL_isSo_441 rfl 5 rfl ?_
                                refine KIload C dL_isSo_442 2 rfl ?_
                                refine KIald (S := u419)  (v := zP z (r367 : Int)) C 20 (hI419.1.at0 81 20) (hI419.1.ln0 81 20) ⟨by omega, by omega⟩ (by omega) (congrFun hI419.P _) dL_isSo_444 ?_
                                refine KAload_n C dL_isSo_445 rfl 5 rfl ?_
                                refine KIload C dL_isSo_446 1 rfl ?_
                                refine KIald (S := u419)  (v := zP z (r377 : Int)) C 20 (hI419.1.at0 81 20) (hI419.1.ln0 81 20) ⟨by omega, by omega⟩ (by omega) (congrFun hI419.P _) dL_isSo_448 ?_
                                refine KAload C dL_isSo_449 11 rfl ?_
                                refine KCallS (As := [.int (iI (zP z (r367 : Int))), .int (iI (zP z (r377 : Int))), .ref (q 80)]) (st := [.int (iI (dst (zN z) (zG z) (zP z (r367 : Int)) (zP z (r377 : Int))))]) C (ct_L_way l g u419 q (zP z (r367 : Int)) (zP z (r377 : Int)) (zN z) (zG z) hI419.1 (hI419.q6) (hI419.q7) (by omega) (by omega) (by omega) (by omega)) u_ml_RL_52 u_st_yL_way u_in_RL u_co_yL_way hd_yL_way ⟨Nat.le_of_ble_eq_true rfl, Nat.le_of_ble_eq_true rfl⟩ ⟨by show 304 + 1 * k + 3 + 0 ≤ 314; omega, by show 1824 + 6 * k + 18 + 0 ≤ 1884; omega⟩ (Nat.le_of_ble_eq_true rfl) dL_isSo_451 rfl (fun v451 u451 hp451 => ?_)
                                obtain ⟨rfl, rfl⟩ := hp451
                                refine KSt (st2 := [.int (iI (dst (zN z) (zG z) (zP z (r367 : Int)) (zP z (r377 : Int)))), .int (iI (dst (zN z) (zG z) (zP z (r367 : Int)) (zP z (r377 : Int))))]) rfl ?_
                                refine KRg (fun hR => ?_)
                                refine KIcmp_ne (tgt := 494) C dL_isSo_454 (by decide) ⟨by omega, by omega⟩ ⟨by omega, by omega⟩ (fun c454 => absurd c454 (fun h9 => h9 rfl)) (fun c454 => ?_)
                                refine KIload C dL_isSo_457 0 rfl ?_
                                refine KIf_lt (tgt := 490) C dL_isSo_459 (by decide) ⟨by omega, by omega⟩ (fun _ => ?_) (fun h => absurd h (by decide))
                                refine KIconst C dL_isSo_490 ?_
                                refine KGoto (tgt := 495) C dL_isSo_491 (by decide) ?_
                                refine KIret C rfl rfl (by
                                  exact ⟨rfl, _, by rw [htt]; exact hI419⟩) (by first | decide | omega) (by first | decide | omega) dL_isSo_495
                          · refine KIload C dL_isSo_244 9 rfl ?_
                            refine KIf_eq (tgt := 364) C dL_isSo_246 (by decide) ⟨by omega, by omega⟩ (fun h => absurd h (by decide)) (fun _ => ?_)
                            refine KIconst C dL_isSo_249 ?_
                            refine KIstore (lv' := [(11, .int (iI 0)), (0, .ref (q 0)), (1, .int (iI e9)), (2, .ref (q 81)), (3, .ref (q 82)), (4, .ref (q 83)), (5, .ref (q 84)), (6, .ref (q 87)), (7, .ref (q 88)), (8, .ref (q 80)), (9, .int (iI 1)), (10, .int (iI (k : Int)))]) C dL_isSo_250 (by decide) rfl ?_
                            refine KIconst C dL_isSo_252 ?_
                            refine KIstore (lv' := [(12, .int (iI 0)), (11, .int (iI 0)), (0, .ref (q 0)), (1, .int (iI e9)), (2, .ref (q 81)), (3, .ref (q 82)), (4, .ref (q 83)), (5, .ref (q 84)), (6, .ref (q 87)), (7, .ref (q 88)), (8, .ref (q 80)), (9, .int (iI 1)), (10, .int (iI (k : Int)))]) C dL_isSo_253 (by decide) rfl ?_
                            refine KLv (lv' := [(0, .ref (q 0)), (1, .int (iI e9)), (2, .ref (q 81)), (3, .ref (q 82)), (4, .ref (q 83)), (5, .ref (q 84)), (6, .ref (q 87)), (7, .ref (q 88)), (8, .ref (q 80)), (9, .int (iI 1)), (10, .int (iI (k : Int))), (11, .int (iI 0)), (12, .int (iI 0))]) [2, 3, 4, 5, 6, 7, 8, 9, 10, 11, 12, 1, 0] rfl ?_
                            have loop255 : ∀ (nX : Nat) (b : Nat), zb z - b < nX → (b ≤ zb z) → Wk pX l eX (rmK 16 314 1884) sX mX argsX belowX methX cX (MQ belowX (QcG g (P_L_isSo S q e9 z R tt)) argsX sX 314 1884 (ge (gB g))) g 15 (304 + 1 * k) (1824 + 6 * k) 255 [(0, .ref (q 0)), (1, .int (iI e9)), (2, .ref (q 81)), (3, .ref (q 82)), (4, .ref (q 83)), (5, .ref (q 84)), (6, .ref (q 87)), (7, .ref (q 88)), (8, .ref (q 80)), (9, .int (iI 1)), (10, .int (iI (k : Int))), (11, .int (iI (ciA z (k : Int) b))), (12, .int (iI (b : Int)))] [] U := by
                              intro nX
                              induction nX with
                              | zero => intro b hm; exact absurd hm (Nat.not_lt_zero _)
                              | succ nX ih255 =>
                                intro b hm255 hbk
                                refine KRg (fun hR => ?_)
                                have hcb := ciA_b z (k : Int) b
                                refine KIload C dL_isSo_255 12 rfl ?_
                                refine KAload C dL_isSo_257 8 rfl ?_
                                refine KIconst C dL_isSo_259 ?_
                                refine KIald (S := U)  (v := (zb z : Int)) C 8 (hId.1.at0 80 20) (hId.1.ln0 80 8) ⟨by omega, by omega⟩ (by omega) hId.q2 dL_isSo_260 ?_
                                refine KIcmp_ge (tgt := 340) C dL_isSo_261 (by decide) ⟨by omega, by omega⟩ ⟨by omega, by omega⟩ (fun c261 => ?_) (fun c261 => ?_)
                                · have hbz : b = zb z := by omega
                                  refine KLvE (lv2 := [(0, .ref (q 0)), (1, .int (iI e9)), (2, .ref (q 81)), (3, .ref (q 82)), (4, .ref (q 83)), (5, .ref (q 84)), (6, .ref (q 87)), (7, .ref (q 88)), (8, .ref (q 80)), (9, .int (iI 1)), (10, .int (iI (k : Int))), (11, .int (iI (ciA z (k : Int) (zb z)))), (12, .int (iI (b : Int)))]) (congrArg (fun zz : Int => ([(0, .ref (q 0)), (1, .int (iI e9)), (2, .ref (q 81)), (3, .ref (q 82)), (4, .ref (q 83)), (5, .ref (q 84)), (6, .ref (q 87)), (7, .ref (q 88)), (8, .ref (q 80)), (9, .int (iI 1)), (10, .int (iI (k : Int))), (11, .int (iI zz)), (12, .int (iI (b : Int)))] : List (Nat × Value))) (show (ciA z (k : Int) b : Int) = ciA z (k : Int) (zb z) from (by rw [hbz]))) ?_
                                  refine KAload_n C dL_isSo_340 rfl 0 rfl ?_
                                  refine KIload C dL_isSo_341 10 rfl ?_
                                  refine KCallVC (As := [.int (iI (k : Int))]) (b := q 0) (st := []) C (ct_X5_inAisle l g hnt U q (k : Int) z hId.1 hW (hId.2.1) (⟨by omega, by omega⟩) (gT g) rfl) u_ml_RL_122 u_im_yX5_inAisle u_se_yX5_inAisle u_in_RX5 u_co_yX5_inAisle hd_yX5_inAisle (hId.1.at0 0 6) (by decide) rfl rfl ⟨Nat.le_of_ble_eq_true rfl, Nat.le_of_ble_eq_true rfl⟩ ⟨by show 304 + 1 * k + 1 ≤ 314; omega, by show 1824 + 6 * k + 6 ≤ 1884; omega⟩ (Nat.le_of_ble_eq_true rfl) dL_isSo_343 rfl (fun E9 u9 hx9 => False.elim (by obtain ⟨hc9, -⟩ := hx9; rw [(ho_Ia (by omega))] at hc9; simp at hc9)) (fun v343 u343 hp343 => ?_)
                                  obtain ⟨r343, z343, ho343, rfl, hc343⟩ := hp343
                                  rw [(ho_Ia (by omega))] at ho343; cases ho343
                                  have hI343 := hId.cp hc343
                                  refine KSt (st2 := [.int (iI (ciA z (k : Int) (zb z)))]) rfl ?_
                                  refine KRg (fun hR => ?_)
                                  have hcz := ciA_b z (k : Int) (zb z)
                                  refine KIload C dL_isSo_346 11 rfl ?_
                                  refine KIcmp_ne (tgt := 355) C dL_isSo_348 (by decide) ⟨by omega, by omega⟩ ⟨by omega, by omega⟩ (fun c348 => absurd c348 (fun h9 => h9 rfl)) (fun c348 => ?_)
                                  refine KIconst C dL_isSo_351 ?_
                                  refine KGoto (tgt := 356) C dL_isSo_352 (by decide) ?_
                                  refine KIstore (lv' := [(9, .int (iI 1)), (0, .ref (q 0)), (1, .int (iI e9)), (2, .ref (q 81)), (3, .ref (q 82)), (4, .ref (q 83)), (5, .ref (q 84)), (6, .ref (q 87)), (7, .ref (q 88)), (8, .ref (q 80)), (10, .int (iI (k : Int))), (11, .int (iI (ciA z (k : Int) (zb z)))), (12, .int (iI (b : Int)))]) C dL_isSo_356 (by decide) rfl ?_
                                  refine KIinc (v := ((k + 1 : Nat) : Int)) (lv' := [(10, .int (iI ((k + 1 : Nat) : Int))), (9, .int (iI 1)), (0, .ref (q 0)), (1, .int (iI e9)), (2, .ref (q 81)), (3, .ref (q 82)), (4, .ref (q 83)), (5, .ref (q 84)), (6, .ref (q 87)), (7, .ref (q 88)), (8, .ref (q 80)), (11, .int (iI (ciA z (k : Int) (zb z)))), (12, .int (iI (b : Int)))]) C dL_isSo_358 10 rfl (by omega) (by decide) rfl ?_
                                  refine KGoto (tgt := 235) C dL_isSo_361 (by decide) ?_
                                  refine KWiden (k := 304 + 1 * (k + 1)) (n := 1824 + 6 * (k + 1)) (by omega) (by omega) ?_
                                  refine KLv (lv' := [(0, .ref (q 0)), (1, .int (iI e9)), (2, .ref (q 81)), (3, .ref (q 82)), (4, .ref (q 83)), (5, .ref (q 84)), (6, .ref (q 87)), (7, .ref (q 88)), (8, .ref (q 80)), (9, .int (iI 1)), (10, .int (iI ((k + 1 : Nat) : Int)))]) [2, 3, 4, 5, 6, 7, 8, 9, 10, 1, 0] rfl ?_
                                  exact ih235 (k + 1) u343 (by omega) (by omega) ⟨_, hI343⟩
                                · have hbz : b < zb z := by omega
                                  have hmB := hW.okB (hW.lnB hbz)
                                  have hmm := hmB.2.2
                                  refine KIconst C dL_isSo_264 ?_
                                  refine KIstore (lv' := [(13, .int (iI 0)), (0, .ref (q 0)), (1, .int (iI e9)), (2, .ref (q 81)), (3, .ref (q 82)), (4, .ref (q 83)), (5, .ref (q 84)), (6, .ref (q 87)), (7, .ref (q 88)), (8, .ref (q 80)), (9, .int (iI 1)), (10, .int (iI (k : Int))), (11, .int (iI (ciA z (k : Int) b))), (12, .int (iI (b : Int)))]) C dL_isSo_265 (by decide) rfl ?_
                                  refine KIconst C dL_isSo_267 ?_
                                  refine KIstore (lv' := [(14, .int (iI 0)), (13, .int (iI 0)), (0, .ref (q 0)), (1, .int (iI e9)), (2, .ref (q 81)), (3, .ref (q 82)), (4, .ref (q 83)), (5, .ref (q 84)), (6, .ref (q 87)), (7, .ref (q 88)), (8, .ref (q 80)), (9, .int (iI 1)), (10, .int (iI (k : Int))), (11, .int (iI (ciA z (k : Int) b))), (12, .int (iI (b : Int)))]) C dL_isSo_268 (by decide) rfl ?_
                                  refine KLv (lv' := [(0, .ref (q 0)), (1, .int (iI e9)), (2, .ref (q 81)), (3, .ref (q 82)), (4, .ref (q 83)), (5, .ref (q 84)), (6, .ref (q 87)), (7, .ref (q 88)), (8, .ref (q 80)), (9, .int (iI 1)), (10, .int (iI (k : Int))), (11, .int (iI (ciA z (k : Int) b))), (12, .int (iI (b : Int))), (13, .int (iI 0)), (14, .int (iI 0))]) [2, 3, 4, 5, 6, 7, 8, 9, 10, 11, 12, 13, 14, 1, 0] rfl ?_
                                  have loop270 : ∀ (nX : Nat) (j : Nat), 20 - j < nX → (j ≤ 20) → Wk pX l eX (rmK 16 314 1884) sX mX argsX belowX methX cX (MQ belowX (QcG g (P_L_isSo S q e9 z R tt)) argsX sX 314 1884 (ge (gB g))) g 15 (304 + 1 * k) (1824 + 6 * k) 270 [(0, .ref (q 0)), (1, .int (iI e9)), (2, .ref (q 81)), (3, .ref (q 82)), (4, .ref (q 83)), (5, .ref (q 84)), (6, .ref (q 87)), (7, .ref (q 88)), (8, .ref (q 80)), (9, .int (iI 1)), (10, .int (iI (k : Int))), (11, .int (iI (ciA z (k : Int) b))), (12, .int (iI (b : Int))), (13, .int (iI ((iF z (b : Int) (k : Int) j : Nat) : Int))), (14, .int (iI (j : Int)))] [] U := by
                                    intro nX
                                    induction nX with
                                    | zero => intro j hm; exact absurd hm (Nat.not_lt_zero _)
                                    | succ nX ih270 =>
                                      intro j hm270 hj
                                      refine KRg (fun hR => ?_)
                                      have hif := iF_le z (b : Int) (k : Int) j
                                      refine KIload C dL_isSo_270 14 rfl ?_
                                      refine KBipush C dL_isSo_272 (by decide) ?_
                                      refine KIcmp_ge (tgt := 327) C dL_isSo_274 (by decide) ⟨by omega, by omega⟩ ⟨by omega, by omega⟩ (fun c274 => ?_) (fun c274 => ?_)
                                      · have hj20 : j = 20 := by omega
                                        have hcs := ciA_st (a := (k : Int)) hmB
                                        refine KLvE (lv2 := [(0, .ref (q 0)), (1, .int (iI e9)), (2, .ref (q 81)), (3, .ref (q 82)), (4, .ref (q 83)), (5, .ref (q 84)), (6, .ref (q 87)), (7, .ref (q 88)), (8, .ref (q 80)), (9, .int (iI 1)), (10, .int (iI (k : Int))), (11, .int (iI (ciA z (k : Int) b))), (12, .int (iI (b : Int))), (13, .int (iI ((iF z (b : Int) (k : Int) 20 : Nat) : Int))), (14, .int (iI (j : Int)))]) (congrArg (fun zz : Int => ([(0, .ref (q 0)), (1, .int (iI e9)), (2, .ref (q 81)), (3, .ref (q 82)), (4, .ref (q 83)), (5, .ref (q 84)), (6, .ref (q 87)), (7, .ref (q 88)), (8, .ref (q 80)), (9, .int (iI 1)), (10, .int (iI (k : Int))), (11, .int (iI (ciA z (k : Int) b))), (12, .int (iI (b : Int))), (13, .int (iI zz)), (14, .int (iI (j : Int)))] : List (Nat × Value))) (show (((iF z (b : Int) (k : Int) j : Nat) : Int) : Int) = ((iF z (b : Int) (k : Int) 20 : Nat) : Int) from (by rw [hj20]))) ?_
                                        refine KIload C dL_isSo_327 11 rfl ?_
                                        refine KIload C dL_isSo_329 13 rfl ?_
                                        refine KIadd C dL_isSo_331 ?_
                                        refine KTop (congrArg iI (show (ciA z (k : Int) b) + ((iF z (b : Int) (k : Int) 20 : Nat) : Int) = ciA z (k : Int) (b + 1) from hcs)) ?_
                                        refine KIstore (lv' := [(11, .int (iI (ciA z (k : Int) (b + 1)))), (0, .ref (q 0)), (1, .int (iI e9)), (2, .ref (q 81)), (3, .ref (q 82)), (4, .ref (q 83)), (5, .ref (q 84)), (6, .ref (q 87)), (7, .ref (q 88)), (8, .ref (q 80)), (9, .int (iI 1)), (10, .int (iI (k : Int))), (12, .int (iI (b : Int))), (13, .int (iI ((iF z (b : Int) (k : Int) 20 : Nat) : Int))), (14, .int (iI (j : Int)))]) C dL_isSo_332 (by decide) rfl ?_
                                        refine KIinc (v := ((b + 1 : Nat) : Int)) (lv' := [(12, .int (iI ((b + 1 : Nat) : Int))), (11, .int (iI (ciA z (k : Int) (b + 1)))), (0, .ref (q 0)), (1, .int (iI e9)), (2, .ref (q 81)), (3, .ref (q 82)), (4, .ref (q 83)), (5, .ref (q 84)), (6, .ref (q 87)), (7, .ref (q 88)), (8, .ref (q 80)), (9, .int (iI 1)), (10, .int (iI (k : Int))), (13, .int (iI ((iF z (b : Int) (k : Int) 20 : Nat) : Int))), (14, .int (iI (j : Int)))]) C dL_isSo_334 12 rfl (by omega) (by decide) rfl ?_
                                        refine KGoto (tgt := 255) C dL_isSo_337 (by decide) ?_
                                        refine KLv (lv' := [(0, .ref (q 0)), (1, .int (iI e9)), (2, .ref (q 81)), (3, .ref (q 82)), (4, .ref (q 83)), (5, .ref (q 84)), (6, .ref (q 87)), (7, .ref (q 88)), (8, .ref (q 80)), (9, .int (iI 1)), (10, .int (iI (k : Int))), (11, .int (iI (ciA z (k : Int) (b + 1)))), (12, .int (iI ((b + 1 : Nat) : Int)))]) [2, 3, 4, 5, 6, 7, 8, 9, 10, 11, 12, 1, 0] rfl ?_
                                        exact ih255 (b + 1) (by omega) (by omega)
                                      · have hpj := hW.plI (x := (j : Int)) (by omega)
                                        refine KIload C dL_isSo_277 13 rfl ?_
                                        refine KAload_n C dL_isSo_279 rfl 2 rfl ?_
                                        refine KIload C dL_isSo_280 14 rfl ?_
                                        refine KIald (S := U)  (v := zP z (j : Int)) C 20 (hId.1.at0 81 20) (hId.1.ln0 81 20) ⟨by omega, by omega⟩ (by omega) (congrFun hId.P _) dL_isSo_282 ?_
                                        refine KIf_lt (tgt := 317) C dL_isSo_283 (by decide) ⟨by omega, by omega⟩ (fun c283 => ?_) (fun c283 => ?_)
                                        · have hfs : iF z (b : Int) (k : Int) (j + 1) = iF z (b : Int) (k : Int) j := iF_skip (fun h9 => by omega)
                                          refine KIconst C dL_isSo_317 ?_
                                          refine KIor (v := iI ((iF z (b : Int) (k : Int) (j + 1) : Nat) : Int)) C dL_isSo_318 ((ib_or0 _).trans (by rw [hfs])) ?_
                                          refine KIstore (lv' := [(13, .int (iI ((iF z (b : Int) (k : Int) (j + 1) : Nat) : Int))), (0, .ref (q 0)), (1, .int (iI e9)), (2, .ref (q 81)), (3, .ref (q 82)), (4, .ref (q 83)), (5, .ref (q 84)), (6, .ref (q 87)), (7, .ref (q 88)), (8, .ref (q 80)), (9, .int (iI 1)), (10, .int (iI (k : Int))), (11, .int (iI (ciA z (k : Int) b))), (12, .int (iI (b : Int))), (14, .int (iI (j : Int)))]) C dL_isSo_319 (by decide) rfl ?_
                                          refine KIinc (v := ((j + 1 : Nat) : Int)) (lv' := [(14, .int (iI ((j + 1 : Nat) : Int))), (13, .int (iI ((iF z (b : Int) (k : Int) (j + 1) : Nat) : Int))), (0, .ref (q 0)), (1, .int (iI e9)), (2, .ref (q 81)), (3, .ref (q 82)), (4, .ref (q 83)), (5, .ref (q 84)), (6, .ref (q 87)), (7, .ref (q 88)), (8, .ref (q 80)), (9, .int (iI 1)), (10, .int (iI (k : Int))), (11, .int (iI (ciA z (k : Int) b))), (12, .int (iI (b : Int)))]) C dL_isSo_321 14 rfl (by omega) (by decide) rfl ?_
                                          refine KGoto (tgt := 270) C dL_isSo_324 (by decide) ?_
                                          refine KLv (lv' := [(0, .ref (q 0)), (1, .int (iI e9)), (2, .ref (q 81)), (3, .ref (q 82)), (4, .ref (q 83)), (5, .ref (q 84)), (6, .ref (q 87)), (7, .ref (q 88)), (8, .ref (q 80)), (9, .int (iI 1)), (10, .int (iI (k : Int))), (11, .int (iI (ciA z (k : Int) b))), (12, .int (iI (b : Int))), (13, .int (iI ((iF z (b : Int) (k : Int) (j + 1) : Nat) : Int))), (14, .int (iI ((j + 1 : Nat) : Int)))]) [2, 3, 4, 5, 6, 7, 8, 9, 10, 11, 12, 13, 14, 1, 0] rfl ?_
                                          exact ih270 (j + 1) (by omega) (by omega)
                                        · refine KAload_n C dL_isSo_286 rfl 2 rfl ?_
                                          refine KIload C dL_isSo_287 14 rfl ?_
                                          refine KIald (S := U)  (v := zP z (j : Int)) C 20 (hId.1.at0 81 20) (hId.1.ln0 81 20) ⟨by omega, by omega⟩ (by omega) (congrFun hId.P _) dL_isSo_289 ?_
                                          refine KBipush C dL_isSo_290 (by decide) ?_
                                          refine KIdiv (z := (zP z (j : Int)) / 100) C dL_isSo_292 ⟨by omega, by omega⟩ ⟨by omega, by omega⟩ (by omega) (tdiv_pos (by omega)) ?_
                                          refine KIload C dL_isSo_293 10 rfl ?_
                                          refine KIcmp_ne (tgt := 317) C dL_isSo_295 (by decide) ⟨by omega, by omega⟩ ⟨by omega, by omega⟩ (fun c295 => ?_) (fun c295 => ?_)
                                          · have hfs : iF z (b : Int) (k : Int) (j + 1) = iF z (b : Int) (k : Int) j := iF_skip (fun h9 => by omega)
                                            refine KIconst C dL_isSo_317 ?_
                                            refine KIor (v := iI ((iF z (b : Int) (k : Int) (j + 1) : Nat) : Int)) C dL_isSo_318 ((ib_or0 _).trans (by rw [hfs])) ?_
                                            refine KIstore (lv' := [(13, .int (iI ((iF z (b : Int) (k : Int) (j + 1) : Nat) : Int))), (0, .ref (q 0)), (1, .int (iI e9)), (2, .ref (q 81)), (3, .ref (q 82)), (4, .ref (q 83)), (5, .ref (q 84)), (6, .ref (q 87)), (7, .ref (q 88)), (8, .ref (q 80)), (9, .int (iI 1)), (10, .int (iI (k : Int))), (11, .int (iI (ciA z (k : Int) b))), (12, .int (iI (b : Int))), (14, .int (iI (j : Int)))]) C dL_isSo_319 (by decide) rfl ?_
                                            refine KIinc (v := ((j + 1 : Nat) : Int)) (lv' := [(14, .int (iI ((j + 1 : Nat) : Int))), (13, .int (iI ((iF z (b : Int) (k : Int) (j + 1) : Nat) : Int))), (0, .ref (q 0)), (1, .int (iI e9)), (2, .ref (q 81)), (3, .ref (q 82)), (4, .ref (q 83)), (5, .ref (q 84)), (6, .ref (q 87)), (7, .ref (q 88)), (8, .ref (q 80)), (9, .int (iI 1)), (10, .int (iI (k : Int))), (11, .int (iI (ciA z (k : Int) b))), (12, .int (iI (b : Int)))]) C dL_isSo_321 14 rfl (by omega) (by decide) rfl ?_
                                            refine KGoto (tgt := 270) C dL_isSo_324 (by decide) ?_
                                            refine KLv (lv' := [(0, .ref (q 0)), (1, .int (iI e9)), (2, .ref (q 81)), (3, .ref (q 82)), (4, .ref (q 83)), (5, .ref (q 84)), (6, .ref (q 87)), (7, .ref (q 88)), (8, .ref (q 80)), (9, .int (iI 1)), (10, .int (iI (k : Int))), (11, .int (iI (ciA z (k : Int) b))), (12, .int (iI (b : Int))), (13, .int (iI ((iF z (b : Int) (k : Int) (j + 1) : Nat) : Int))), (14, .int (iI ((j + 1 : Nat) : Int)))]) [2, 3, 4, 5, 6, 7, 8, 9, 10, 11, 12, 13, 14, 1, 0] rfl ?_
                                            exact ih270 (j + 1) (by omega) (by omega)
                                          · have hfo := iF_or (z := z) (b := (b : Int)) (a := (k : Int)) (k := j) ⟨by omega, by omega⟩
                                            refine KIload C dL_isSo_298 12 rfl ?_
                                            refine KAload C dL_isSo_300 4 rfl ?_
                                            refine KAload C dL_isSo_302 5 rfl ?_
                                            refine KAload C dL_isSo_304 8 rfl ?_
                                            refine KCallS (As := [.int (iI (b : Int)), .ref (q 83), .ref (q 84), .ref (q 80)]) (st := [.int (iI ((iF z (b : Int) (k : Int) j : Nat) : Int))]) C (ct_L_products l g U q (b : Int) z hId.1 hW (hId.2.2.1) (by omega)) u_ml_RL_63 u_st_yL_products u_in_RL u_co_yL_products hd_yL_products ⟨Nat.le_of_ble_eq_true rfl, Nat.le_of_ble_eq_true rfl⟩ ⟨by show 304 + 1 * k + 0 ≤ 314; omega, by show 1824 + 6 * k + 0 ≤ 1884; omega⟩ (Nat.le_of_ble_eq_true rfl) dL_isSo_306 rfl (fun v306 u306 hp306 => ?_)
                                            obtain ⟨rfl, rfl⟩ := hp306
                                            refine KSt (st2 := [.int (iI ((zpd z (b : Int) : Nat) : Int)), .int (iI ((iF z (b : Int) (k : Int) j : Nat) : Int))]) rfl ?_
                                            refine KRg (fun hR => ?_)
                                            refine KIload C dL_isSo_309 14 rfl ?_
                                            refine KIshr (v := iI ((zpd z (b : Int) / 2 ^ j : Nat) : Int)) C dL_isSo_311 (ib_shr (by omega) (by omega)) ?_
                                            refine KIconst C dL_isSo_312 ?_
                                            refine KIand (v := iI ((zpd z (b : Int) / 2 ^ j % 2 : Nat) : Int)) C dL_isSo_313 (ib_bit (by omega) (by omega)) ?_
                                            refine KGoto (tgt := 318) C dL_isSo_314 (by decide) ?_
                                            refine KIor (v := iI ((iF z (b : Int) (k : Int) (j + 1) : Nat) : Int)) C dL_isSo_318 ((ib_or _ _).trans (by rw [hfo])) ?_
                                            refine KIstore (lv' := [(13, .int (iI ((iF z (b : Int) (k : Int) (j + 1) : Nat) : Int))), (0, .ref (q 0)), (1, .int (iI e9)), (2, .ref (q 81)), (3, .ref (q 82)), (4, .ref (q 83)), (5, .ref (q 84)), (6, .ref (q 87)), (7, .ref (q 88)), (8, .ref (q 80)), (9, .int (iI 1)), (10, .int (iI (k : Int))), (11, .int (iI (ciA z (k : Int) b))), (12, .int (iI (b : Int))), (14, .int (iI (j : Int)))]) C dL_isSo_319 (by decide) rfl ?_
                                            refine KIinc (v := ((j + 1 : Nat) : Int)) (lv' := [(14, .int (iI ((j + 1 : Nat) : Int))), (13, .int (iI ((iF z (b : Int) (k : Int) (j + 1) : Nat) : Int))), (0, .ref (q 0)), (1, .int (iI e9)), (2, .ref (q 81)), (3, .ref (q 82)), (4, .ref (q 83)), (5, .ref (q 84)), (6, .ref (q 87)), (7, .ref (q 88)), (8, .ref (q 80)), (9, .int (iI 1)), (10, .int (iI (k : Int))), (11, .int (iI (ciA z (k : Int) b))), (12, .int (iI (b : Int)))]) C dL_isSo_321 14 rfl (by omega) (by decide) rfl ?_
                                            refine KGoto (tgt := 270) C dL_isSo_324 (by decide) ?_
                                            refine KLv (lv' := [(0, .ref (q 0)), (1, .int (iI e9)), (2, .ref (q 81)), (3, .ref (q 82)), (4, .ref (q 83)), (5, .ref (q 84)), (6, .ref (q 87)), (7, .ref (q 88)), (8, .ref (q 80)), (9, .int (iI 1)), (10, .int (iI (k : Int))), (11, .int (iI (ciA z (k : Int) b))), (12, .int (iI (b : Int))), (13, .int (iI ((iF z (b : Int) (k : Int) (j + 1) : Nat) : Int))), (14, .int (iI ((j + 1 : Nat) : Int)))]) [2, 3, 4, 5, 6, 7, 8, 9, 10, 11, 12, 13, 14, 1, 0] rfl ?_
                                            exact ih270 (j + 1) (by omega) (by omega)
                                  exact loop270 _ 0 (Nat.lt_succ_self _) (by omega)
                            exact loop255 _ 0 (Nat.lt_succ_self _) (by omega)
                      exact loop235 _ 0 U (Nat.lt_succ_self _) (by omega) ⟨_, hIc⟩
                    · refine KIload C dL_isSo_202 9 rfl ?_
                      refine KIf_eq (tgt := 232) C dL_isSo_204 (by decide) ⟨by omega, by omega⟩ (fun h => absurd h (by decide)) (fun _ => ?_)
                      refine KAload_n C dL_isSo_207 rfl 0 rfl ?_
                      refine KIload C dL_isSo_208 10 rfl ?_
                      refine KAload_n C dL_isSo_210 rfl 2 rfl ?_
                      refine KAload C dL_isSo_211 4 rfl ?_
                      refine KAload C dL_isSo_213 5 rfl ?_
                      refine KAload C dL_isSo_215 6 rfl ?_
                      refine KAload C dL_isSo_217 7 rfl ?_
                      refine KAload C dL_isSo_219 8 rfl ?_
                      refine KCallSM (As := [.ref (q 0), .int (iI (k : Int)), .ref (q 81), .ref (q 83), .ref (q 84), .ref (q 87), .ref (q 88), .ref (q 80)]) (st := []) C hnc (ct_L_isBatch l g hnt U q k z RhIc (hIc) hW (show k < zb z by omega) (gT g) rfl) u_ml_RL_118 u_st_yL_isBatch u_in_RL u_co_yL_isBatch hd_yL_isBatch ⟨Nat.le_of_ble_eq_true rfl, Nat.le_of_ble_eq_true rfl⟩ ⟨by show 64 + 20 * k + 20 ≤ 314; omega, by show 384 + 120 * k + 120 ≤ 1884; omega⟩ (Nat.le_of_ble_eq_true rfl) dL_isSo_221 rfl (fun v221 u221 hp221 => ?_)
                      obtain ⟨rfl, R221, hI221⟩ := hp221
                      refine KSt (st2 := [.int (iI 1)]) rfl ?_
                      refine KRg (fun hR => ?_)
                      refine KIstore (lv' := [(9, .int (iI 1)), (0, .ref (q 0)), (1, .int (iI e9)), (2, .ref (q 81)), (3, .ref (q 82)), (4, .ref (q 83)), (5, .ref (q 84)), (6, .ref (q 87)), (7, .ref (q 88)), (8, .ref (q 80)), (10, .int (iI (k : Int)))]) C dL_isSo_224 (by decide) rfl ?_
                      refine KIinc (v := ((k + 1 : Nat) : Int)) (lv' := [(10, .int (iI ((k + 1 : Nat) : Int))), (9, .int (iI 1)), (0, .ref (q 0)), (1, .int (iI e9)), (2, .ref (q 81)), (3, .ref (q 82)), (4, .ref (q 83)), (5, .ref (q 84)), (6, .ref (q 87)), (7, .ref (q 88)), (8, .ref (q 80))]) C dL_isSo_226 10 rfl (by omega) (by decide) rfl ?_
                      refine KGoto (tgt := 193) C dL_isSo_229 (by decide) ?_
                      refine KWiden (k := 64 + 20 * (k + 1)) (n := 384 + 120 * (k + 1)) (by omega) (by omega) ?_
                      refine KLv (lv' := [(0, .ref (q 0)), (1, .int (iI e9)), (2, .ref (q 81)), (3, .ref (q 82)), (4, .ref (q 83)), (5, .ref (q 84)), (6, .ref (q 87)), (7, .ref (q 88)), (8, .ref (q 80)), (9, .int (iI 1)), (10, .int (iI ((k + 1 : Nat) : Int)))]) [2, 3, 4, 5, 6, 7, 8, 9, 10, 1, 0] rfl ?_
                      exact ih193 (k + 1) u221 (by omega) (by omega) ⟨_, hI221⟩
                exact loop193 _ 0 U (Nat.lt_succ_self _) (by omega) ⟨_, hIb⟩
              · have hkz : k < zo z := by omega
                have hsk := zst_b hW hkz
                refine KIload C dL_isSo_136 9 rfl ?_
                refine KIf_eq (tgt := 190) C dL_isSo_138 (by decide) ⟨by omega, by omega⟩ (fun h => absurd h (by decide)) (fun _ => ?_)
                refine KAload_n C dL_isSo_141 rfl 0 rfl ?_
                refine KIload C dL_isSo_142 10 rfl ?_
                refine KCallVC (As := [.int (iI (k : Int))]) (b := q 0) (st := []) C (ct_X5_stateOf l g hnt U q (k : Int) z hIb.1 hW (hIb.2.1) (⟨by omega, by omega⟩) (gT g) rfl) u_ml_RL_112 u_im_yX5_stateOf u_se_yX5_stateOf u_in_RX5 u_co_yX5_stateOf hd_yX5_stateOf (hIb.1.at0 0 6) (by decide) rfl rfl ⟨Nat.le_of_ble_eq_true rfl, Nat.le_of_ble_eq_true rfl⟩ ⟨by show 40 + 2 * k + 1 ≤ 314; omega, by show 240 + 12 * k + 6 ≤ 1884; omega⟩ (Nat.le_of_ble_eq_true rfl) dL_isSo_144 rfl (fun E9 u9 hx9 => False.elim (by obtain ⟨hc9, -⟩ := hx9; rw [(ho_St hkz)] at hc9; simp at hc9)) (fun v144 u144 hp144 => ?_)
                obtain ⟨r144, z144, ho144, rfl, hc144⟩ := hp144
                rw [(ho_St hkz)] at ho144; cases ho144
                have hI144 := hIb.cp hc144
                refine KSt (st2 := [.int (iI (zst z (k : Int)))]) rfl ?_
                refine KRg (fun hR => ?_)
                refine KAload C dL_isSo_147 4 rfl ?_
                refine KIconst C dL_isSo_149 ?_
                refine KIload C dL_isSo_150 10 rfl ?_
                refine KImul C dL_isSo_152 ?_
                refine KIconst C dL_isSo_153 ?_
                refine KIadd C dL_isSo_154 ?_
                refine KTop (congrArg iI (show (4 * (k : Int)) + 1 = ((4 * k + 1 : Nat) : Int) from (by omega))) ?_
                refine KIald (S := u144)  (v := zst z (k : Int)) C 48 (hI144.1.at0 83 20) (hI144.1.ln0 83 48) ⟨by omega, by omega⟩ (by omega) (hI144.o k hkz).2.1 dL_isSo_155 ?_
                refine KIcmp_ne (tgt := 181) C dL_isSo_156 (by decide) ⟨by omega, by omega⟩ ⟨by omega, by omega⟩ (fun c156 => absurd c156 (fun h9 => h9 rfl)) (fun c156 => ?_)
                refine KAload_n C dL_isSo_159 rfl 0 rfl ?_
                refine KIload C dL_isSo_160 10 rfl ?_
                refine KCallVC (As := [.int (iI (k : Int))]) (b := q 0) (st := []) C (ct_X5_batchOf l g hnt u144 q (k : Int) z hI144.1 hW (hI144.2.1) (⟨by omega, by omega⟩) (gT g) rfl) u_ml_RL_115 u_im_yX5_batchOf u_se_yX5_batchOf u_in_RX5 u_co_yX5_batchOf hd_yX5_batchOf (hI144.1.at0 0 6) (by decide) rfl rfl ⟨Nat.le_of_ble_eq_true rfl, Nat.le_of_ble_eq_true rfl⟩ ⟨by show 40 + 2 * k + 1 + 1 ≤ 314; omega, by show 240 + 12 * k + 6 + 6 ≤ 1884; omega⟩ (Nat.le_of_ble_eq_true rfl) dL_isSo_162 rfl (fun E9 u9 hx9 => False.elim (by obtain ⟨hc9, -⟩ := hx9; rw [(ho_Bt hkz)] at hc9; simp at hc9)) (fun v162 u162 hp162 => ?_)
                obtain ⟨r162, z162, ho162, rfl, hc162⟩ := hp162
                rw [(ho_Bt hkz)] at ho162; cases ho162
                have hI162 := hI144.cp hc162
                refine KSt (st2 := [.int (iI (zbt z (k : Int)))]) rfl ?_
                refine KRg (fun hR => ?_)
                refine KAload C dL_isSo_165 4 rfl ?_
                refine KIconst C dL_isSo_167 ?_
                refine KIload C dL_isSo_168 10 rfl ?_
                refine KImul C dL_isSo_170 ?_
                refine KIconst C dL_isSo_171 ?_
                refine KIadd C dL_isSo_172 ?_
                refine KTop (congrArg iI (show (4 * (k : Int)) + 2 = ((4 * k + 2 : Nat) : Int) from (by omega))) ?_
                refine KIald (S := u162)  (v := zbt z (k : Int)) C 48 (hI162.1.at0 83 20) (hI162.1.ln0 83 48) ⟨by omega, by omega⟩ (by omega) (hI162.o k hkz).2.2.1 dL_isSo_173 ?_
                refine KIcmp_ne (tgt := 181) C dL_isSo_174 (by decide) ⟨by omega, by omega⟩ ⟨by omega, by omega⟩ (fun c174 => absurd c174 (fun h9 => h9 rfl)) (fun c174 => ?_)
                refine KIconst C dL_isSo_177 ?_
                refine KGoto (tgt := 182) C dL_isSo_178 (by decide) ?_
                refine KIstore (lv' := [(9, .int (iI 1)), (0, .ref (q 0)), (1, .int (iI e9)), (2, .ref (q 81)), (3, .ref (q 82)), (4, .ref (q 83)), (5, .ref (q 84)), (6, .ref (q 87)), (7, .ref (q 88)), (8, .ref (q 80)), (10, .int (iI (k : Int)))]) C dL_isSo_182 (by decide) rfl ?_
                refine KIinc (v := ((k + 1 : Nat) : Int)) (lv' := [(10, .int (iI ((k + 1 : Nat) : Int))), (9, .int (iI 1)), (0, .ref (q 0)), (1, .int (iI e9)), (2, .ref (q 81)), (3, .ref (q 82)), (4, .ref (q 83)), (5, .ref (q 84)), (6, .ref (q 87)), (7, .ref (q 88)), (8, .ref (q 80))]) C dL_isSo_184 10 rfl (by omega) (by decide) rfl ?_
                refine KGoto (tgt := 127) C dL_isSo_187 (by decide) ?_
                refine KWiden (k := 40 + 2 * (k + 1)) (n := 240 + 12 * (k + 1)) (by omega) (by omega) ?_
                refine KLv (lv' := [(0, .ref (q 0)), (1, .int (iI e9)), (2, .ref (q 81)), (3, .ref (q 82)), (4, .ref (q 83)), (5, .ref (q 84)), (6, .ref (q 87)), (7, .ref (q 88)), (8, .ref (q 80)), (9, .int (iI 1)), (10, .int (iI ((k + 1 : Nat) : Int)))]) [2, 3, 4, 5, 6, 7, 8, 9, 10, 1, 0] rfl ?_
                exact ih127 (k + 1) u162 (by omega) (by omega) ⟨_, hI162⟩
          exact loop127 _ 0 U (Nat.lt_succ_self _) (by omega) ⟨_, hIa⟩
        · refine KIload C dL_isSo_80 9 rfl ?_
          refine KIf_eq (tgt := 124) C dL_isSo_82 (by decide) ⟨by omega, by omega⟩ (fun h => absurd h (by decide)) (fun _ => ?_)
          refine KAload_n C dL_isSo_85 rfl 0 rfl ?_
          refine KIload C dL_isSo_86 10 rfl ?_
          refine KCallVC (As := [.int (iI (k : Int))]) (b := q 0) (st := []) C (ct_X5_placeOf l g hnt U q (k : Int) z hIa.1 hW (hIa.2.1) (⟨by omega, by omega⟩) (gT g) rfl) u_ml_RL_106 u_im_yX5_placeOf u_se_yX5_placeOf u_in_RX5 u_co_yX5_placeOf hd_yX5_placeOf (hIa.1.at0 0 6) (by decide) rfl rfl ⟨Nat.le_of_ble_eq_true rfl, Nat.le_of_ble_eq_true rfl⟩ ⟨by show 2 * k + 1 ≤ 314; omega, by show 12 * k + 6 ≤ 1884; omega⟩ (Nat.le_of_ble_eq_true rfl) dL_isSo_88 rfl (fun E9 u9 hx9 => False.elim (by obtain ⟨hc9, -⟩ := hx9; rw [(ho_Pl (show k < 20 by omega))] at hc9; simp at hc9)) (fun v88 u88 hp88 => ?_)
          obtain ⟨r88, z88, ho88, rfl, hc88⟩ := hp88
          rw [(ho_Pl (show k < 20 by omega))] at ho88; cases ho88
          have hI88 := hIa.cp hc88
          refine KSt (st2 := [.int (iI (zP z (k : Int)))]) rfl ?_
          refine KRg (fun hR => ?_)
          have hpk := hW.plI (x := (k : Int)) (by omega)
          refine KAload_n C dL_isSo_91 rfl 2 rfl ?_
          refine KIload C dL_isSo_92 10 rfl ?_
          refine KIald (S := u88)  (v := zP z (k : Int)) C 20 (hI88.1.at0 81 20) (hI88.1.ln0 81 20) ⟨by omega, by omega⟩ (by omega) (congrFun hI88.P _) dL_isSo_94 ?_
          refine KIcmp_ne (tgt := 115) C dL_isSo_95 (by decide) ⟨by omega, by omega⟩ ⟨by omega, by omega⟩ (fun c95 => absurd c95 (fun h9 => h9 rfl)) (fun c95 => ?_)
          refine KAload_n C dL_isSo_98 rfl 0 rfl ?_
          refine KIload C dL_isSo_99 10 rfl ?_
          refine KCallVC (As := [.int (iI (k : Int))]) (b := q 0) (st := []) C (ct_X5_turnover l g hnt u88 q (k : Int) z hI88.1 hW (hI88.2.1) (⟨by omega, by omega⟩) (gT g) rfl) u_ml_RL_109 u_im_yX5_turnover u_se_yX5_turnover u_in_RX5 u_co_yX5_turnover hd_yX5_turnover (hI88.1.at0 0 6) (by decide) rfl rfl ⟨Nat.le_of_ble_eq_true rfl, Nat.le_of_ble_eq_true rfl⟩ ⟨by show 2 * k + 1 + 1 ≤ 314; omega, by show 12 * k + 6 + 6 ≤ 1884; omega⟩ (Nat.le_of_ble_eq_true rfl) dL_isSo_101 rfl (fun E9 u9 hx9 => False.elim (by obtain ⟨hc9, -⟩ := hx9; rw [(ho_Tv (show k < 20 by omega))] at hc9; simp at hc9)) (fun v101 u101 hp101 => ?_)
          obtain ⟨r101, z101, ho101, rfl, hc101⟩ := hp101
          rw [(ho_Tv (show k < 20 by omega))] at ho101; cases ho101
          have hI101 := hI88.cp hc101
          refine KSt (st2 := [.int (iI (ztv z (k : Int)))]) rfl ?_
          refine KRg (fun hR => ?_)
          have htk := ztv_bb hW (k : Int)
          refine KAload_n C dL_isSo_104 rfl 3 rfl ?_
          refine KIload C dL_isSo_105 10 rfl ?_
          refine KIald (S := u101)  (v := ztv z (k : Int)) C 20 (hI101.1.at0 82 20) (hI101.1.ln0 82 20) ⟨by omega, by omega⟩ (by omega) (hI101.tv k (by omega)) dL_isSo_107 ?_
          refine KIcmp_ne (tgt := 115) C dL_isSo_108 (by decide) ⟨by omega, by omega⟩ ⟨by omega, by omega⟩ (fun c108 => absurd c108 (fun h9 => h9 rfl)) (fun c108 => ?_)
          refine KIconst C dL_isSo_111 ?_
          refine KGoto (tgt := 116) C dL_isSo_112 (by decide) ?_
          refine KIstore (lv' := [(9, .int (iI 1)), (0, .ref (q 0)), (1, .int (iI e9)), (2, .ref (q 81)), (3, .ref (q 82)), (4, .ref (q 83)), (5, .ref (q 84)), (6, .ref (q 87)), (7, .ref (q 88)), (8, .ref (q 80)), (10, .int (iI (k : Int)))]) C dL_isSo_116 (by decide) rfl ?_
          refine KIinc (v := ((k + 1 : Nat) : Int)) (lv' := [(10, .int (iI ((k + 1 : Nat) : Int))), (9, .int (iI 1)), (0, .ref (q 0)), (1, .int (iI e9)), (2, .ref (q 81)), (3, .ref (q 82)), (4, .ref (q 83)), (5, .ref (q 84)), (6, .ref (q 87)), (7, .ref (q 88)), (8, .ref (q 80))]) C dL_isSo_118 10 rfl (by omega) (by decide) rfl ?_
          refine KGoto (tgt := 73) C dL_isSo_121 (by decide) ?_
          refine KWiden (k := 2 * (k + 1)) (n := 12 * (k + 1)) (by omega) (by omega) ?_
          refine KLv (lv' := [(0, .ref (q 0)), (1, .int (iI e9)), (2, .ref (q 81)), (3, .ref (q 82)), (4, .ref (q 83)), (5, .ref (q 84)), (6, .ref (q 87)), (7, .ref (q 88)), (8, .ref (q 80)), (9, .int (iI 1)), (10, .int (iI ((k + 1 : Nat) : Int)))]) [2, 3, 4, 5, 6, 7, 8, 9, 10, 1, 0] rfl ?_
          exact ih73 (k + 1) u101 (by omega) (by omega) ⟨_, hI101⟩
    exact loop73 _ 0 S (Nat.lt_succ_self _) (by omega) ⟨_, hI⟩
