def P_X6_inAisle (S : Sto) (q : Nat → Nat) (a : Int) : Option Value → Sto → Prop := fun v u => ∃ c r z', oIa (sgM S q) a = (c, r, z') ∧ v = some (.int (iI r)) ∧ MP S q u c z'
set_option maxRecDepth 100000 in
set_option maxHeartbeats 4000000 in
theorem ct_X6_inAisle (l : Launch) (g : GG) (S : Sto) (q : Nat → Nat) (a : Int) (hT : Top S q) (hW : Wf (sgM S q)) (hCn : Cn S q) (hia : inR a) : MetS l g yX6_inAisle cX6_inAisle 4 (some FieldType.int) 4 0 0 [.ref (q 80), .int (iI a)] S (P_X6_inAisle S q a) := by
  refine MetS.of (own := RX6) (lv := [(0, .ref (q 80)), (1, .int (iI a))]) (by decide) rfl (Nat.le_of_ble_eq_true rfl) rfl ?_
  intro pX eX sX mX argsX belowX methX cX C hin
  refine KRg (fun hR => ?_)
  obtain ⟨a1, a2⟩ := id hia
  refine KAload_n C dX6_inAisle_0 rfl 0 rfl ?_
  refine KIconst C dX6_inAisle_1 ?_
  obtain ⟨T, hTT, hT9, hW, hCn, h00, hz, hM⟩ := MP.start hT hW hCn
  refine KPutI (ty := .int) (v := 0) C ul_X6 rfl (by decide) 0 0 rfl (by decide) rfl u_fl_RX6_59 tyX6 tyX6_ok nmX6 (hT.at0 80 7) ⟨by omega, by omega⟩ (by decide +kernel) rfl rfl rfl dX6_inAisle_2 (fun _ h => h) ?_
  refine KSto (S2 := T) hTT.symm ?_
  have hT := hT9
  have hlift : ∀ v u, P_X6_inAisle T q a v u → P_X6_inAisle S q a v u := fun v u ⟨c, r, z', h1, h2, h3⟩ => ⟨c, r, z', hz ▸ h1, h2, hM.trans h3⟩
  refine KRg (fun hR => ?_)
  obtain ⟨hc6, hc13⟩ := id hCn
  have hCm : CfM T q := hW.cf
  obtain ⟨hA1, hA2, hN1, hN2, hG1, hG2⟩ := id hCm
  obtain ⟨ho40, hbo⟩ := hW.2.1
  have ezA : zA (sgM T q) = sI T (q 80) 1 := rfl
  have ezN : zN (sgM T q) = sI T (q 80) 2 := rfl
  refine KIload_n C dX6_inAisle_5 rfl 1 rfl ?_
  refine KIconst C dX6_inAisle_6 ?_
  refine KAload_n C dX6_inAisle_7 rfl 0 rfl ?_
  refine KGetI (S := T) C ul_X6 rfl (by decide) 1 1 rfl (by decide) rfl u_fl_RX6_50 (hT.at0 80 7) (v := sI T (q 80) 1) rfl dX6_inAisle_8 (fun _ h => h) ?_
  have rb1 := hR.b (q 80) 1 (v := sI T (q 80) 1) rfl
  refine KIconst C dX6_inAisle_11 ?_
  refine KIsub C dX6_inAisle_12 ?_
  refine KCallS (As := [.int (iI a), .int (iI 0), .int (iI ((sI T (q 80) 1) - 1))]) (st := []) C (ct_X6_in l g T a 0 ((sI T (q 80) 1) - 1) (⟨by omega, by omega⟩) (⟨by omega, by omega⟩) (⟨by omega, by omega⟩)) u_ml_RX6_62 u_st_yX6_in u_in_RX6 u_co_yX6_in hd_yX6_in ⟨Nat.le_of_ble_eq_true rfl, Nat.le_of_ble_eq_true rfl⟩ ⟨Nat.le_of_ble_eq_true rfl, Nat.le_of_ble_eq_true rfl⟩ (Nat.le_of_ble_eq_true rfl) dX6_inAisle_13 rfl (fun v13 u13 hp13 => ?_)
  obtain ⟨⟨b13, rfl⟩ | ⟨b13, rfl⟩, rfl⟩ := hp13
  · refine KSt (st2 := [.int (iI 1)]) rfl ?_
    refine KIf_ne (tgt := 25) C dX6_inAisle_16 (by decide) ⟨by omega, by omega⟩ (fun _ => ?_) (fun h => absurd h (by decide))
    refine KIconst C dX6_inAisle_25 ?_
    refine KIstore_n (lv' := [(2, .int (iI 0)), (0, .ref (q 80)), (1, .int (iI a))]) C dX6_inAisle_26 rfl (by decide) rfl ?_
    refine KIconst C dX6_inAisle_27 ?_
    refine KIstore_n (lv' := [(3, .int (iI 0)), (2, .int (iI 0)), (0, .ref (q 80)), (1, .int (iI a))]) C dX6_inAisle_28 rfl (by decide) rfl ?_
    refine KLv (lv' := [(0, .ref (q 80)), (1, .int (iI a)), (2, .int (iI 0)), (3, .int (iI 0))]) [2, 3, 1, 0] rfl ?_
    have loop29 : ∀ (nX : Nat) (n : Nat), zb (sgM T q) - n < nX → (n ≤ zb (sgM T q)) → Wk pX l eX (rmK 4 0 0) sX mX argsX belowX methX cX (MQ belowX (QcG g (P_X6_inAisle S q a)) argsX sX 0 0 (ge (gB g))) g 4 0 0 29 [(0, .ref (q 80)), (1, .int (iI a)), (2, .int (iI (ciA (sgM T q) a n))), (3, .int (iI (n : Int)))] [] T := by
      intro nX
      induction nX with
      | zero => intro n hm; exact absurd hm (Nat.not_lt_zero _)
      | succ nX ih29 =>
        intro n hm29 hn
        refine KRg (fun hR => ?_)
        refine KIload_n C dX6_inAisle_29 rfl 3 rfl ?_
        refine KAload_n C dX6_inAisle_30 rfl 0 rfl ?_
        refine KGetI (S := T) C ul_X6 rfl (by decide) 13 13 rfl (by decide) rfl u_fl_RX6_69 (hT.at0 80 7) (v := ((zb (sgM T q) : Nat) : Int)) hc13 dX6_inAisle_31 (fun _ h => h) ?_
        have rb2 := hR.b (q 80) 13 (v := ((zb (sgM T q) : Nat) : Int)) hc13
        refine KIcmp_ge (tgt := 60) C dX6_inAisle_34 (by decide) ⟨by omega, by omega⟩ ⟨by omega, by omega⟩ (fun c34 => ?_) (fun c34 => ?_)
        · refine KIload_n C dX6_inAisle_60 rfl 2 rfl ?_
          refine KIret C rfl rfl (by
            exact hlift _ _ ⟨0, ciA (sgM T q) a (zb (sgM T q)), sgM T q, (by unfold oIa; exact if_pos (by omega)), by rw [show zb (sgM T q) = n by omega], MP.refl0 hCn h00⟩) (by decide) (by decide) dX6_inAisle_61
        · refine KIload_n C dX6_inAisle_37 rfl 2 rfl ?_
          refine KAload_n C dX6_inAisle_38 rfl 0 rfl ?_
          refine KIload_n C dX6_inAisle_39 rfl 3 rfl ?_
          refine KIload_n C dX6_inAisle_40 rfl 1 rfl ?_
          refine KCallV (As := [.int (iI (n : Int)), .int (iI a)]) (b := q 80) (st := [.int (iI (ciA (sgM T q) a n))]) C (ct_X6_farthest l g T q (n : Int) a hT hW hCn (by omega) (by omega)) u_ml_RX6_140 u_im_yX6_farthest u_se_yX6_farthest u_in_RX6 u_co_yX6_farthest hd_yX6_farthest (hT.at0 80 7) (by decide) rfl rfl ⟨Nat.le_of_ble_eq_true rfl, Nat.le_of_ble_eq_true rfl⟩ ⟨Nat.le_of_ble_eq_true rfl, Nat.le_of_ble_eq_true rfl⟩ (Nat.le_of_ble_eq_true rfl) dX6_inAisle_41 rfl (fun v41 u41 hp41 => ?_)
          obtain ⟨rfl, rfl⟩ := hp41
          refine KSt (st2 := [.int (iI (zfr (sgM T q) (n : Int) a)), .int (iI (ciA (sgM T q) a n))]) rfl ?_
          refine KRg (fun hR => ?_)
          have hfb := fr_b (zP (sgM T q)) (zpd (sgM T q) (n : Int)) a 20
          change 0 ≤ zfr (sgM T q) (n : Int) a ∧ zfr (sgM T q) (n : Int) a ≤ 99 at hfb
          refine KIf_le (tgt := 51) C dX6_inAisle_44 (by decide) ⟨by omega, by omega⟩ (fun c44 => ?_) (fun c44 => ?_)
          · refine KIconst C dX6_inAisle_51 ?_
            refine KIadd C dX6_inAisle_52 ?_
            refine KTop (congrArg iI (show (ciA (sgM T q) a n) + 0 = ciA (sgM T q) a (n + 1) from (by first | exact ci_t (by omega) | exact ci_f (by omega)))) ?_
            refine KIstore_n (lv' := [(2, .int (iI (ciA (sgM T q) a (n + 1)))), (0, .ref (q 80)), (1, .int (iI a)), (3, .int (iI (n : Int)))]) C dX6_inAisle_53 rfl (by decide) rfl ?_
            refine KIinc (v := ((n + 1 : Nat) : Int)) (lv' := [(3, .int (iI ((n + 1 : Nat) : Int))), (2, .int (iI (ciA (sgM T q) a (n + 1)))), (0, .ref (q 80)), (1, .int (iI a))]) C dX6_inAisle_54 3 rfl (by omega) (by decide) rfl ?_
            refine KGoto (tgt := 29) C dX6_inAisle_57 (by decide) ?_
            refine KLv (lv' := [(0, .ref (q 80)), (1, .int (iI a)), (2, .int (iI (ciA (sgM T q) a (n + 1)))), (3, .int (iI ((n + 1 : Nat) : Int)))]) [2, 3, 1, 0] rfl ?_
            exact ih29 (n + 1) (by omega) (by omega)
          · refine KIconst C dX6_inAisle_47 ?_
            refine KGoto (tgt := 52) C dX6_inAisle_48 (by decide) ?_
            refine KIadd C dX6_inAisle_52 ?_
            refine KTop (congrArg iI (show (ciA (sgM T q) a n) + 1 = ciA (sgM T q) a (n + 1) from (by first | exact ci_t (by omega) | exact ci_f (by omega)))) ?_
            refine KIstore_n (lv' := [(2, .int (iI (ciA (sgM T q) a (n + 1)))), (0, .ref (q 80)), (1, .int (iI a)), (3, .int (iI (n : Int)))]) C dX6_inAisle_53 rfl (by decide) rfl ?_
            refine KIinc (v := ((n + 1 : Nat) : Int)) (lv' := [(3, .int (iI ((n + 1 : Nat) : Int))), (2, .int (iI (ciA (sgM T q) a (n + 1)))), (0, .ref (q 80)), (1, .int (iI a))]) C dX6_inAisle_54 3 rfl (by omega) (by decide) rfl ?_
            refine KGoto (tgt := 29) C dX6_inAisle_57 (by decide) ?_
            refine KLv (lv' := [(0, .ref (q 80)), (1, .int (iI a)), (2, .int (iI (ciA (sgM T q) a (n + 1)))), (3, .int (iI ((n + 1 : Nat) : Int)))]) [2, 3, 1, 0] rfl ?_
            exact ih29 (n + 1) (by omega) (by omega)
    exact loop29 _ 0 (Nat.lt_succ_self _) (by omega)
  · refine KSt (st2 := [.int (iI 0)]) rfl ?_
    refine KIf_ne (tgt := 25) C dX6_inAisle_16 (by decide) ⟨by omega, by omega⟩ (fun h => absurd h (by decide)) (fun _ => ?_)
    refine KAload_n C dX6_inAisle_19 rfl 0 rfl ?_
    refine KIconst C dX6_inAisle_20 ?_
    refine KCallV (As := [.int (iI 1)]) (b := q 80) (st := []) C (ct_X6_fails l g T q 1 hT (by omega)) u_ml_RX6_94 u_im_yX6_fails u_se_yX6_fails u_in_RX6 u_co_yX6_fails hd_yX6_fails (hT.at0 80 7) (by decide) rfl rfl ⟨Nat.le_of_ble_eq_true rfl, Nat.le_of_ble_eq_true rfl⟩ ⟨Nat.le_of_ble_eq_true rfl, Nat.le_of_ble_eq_true rfl⟩ (Nat.le_of_ble_eq_true rfl) dX6_inAisle_21 rfl (fun v21 u21 hp21 => ?_)
    obtain ⟨rfl, rfl⟩ := hp21
    refine KSt (st2 := [.int (iI 0)]) rfl ?_
    refine KRg (fun hR => ?_)
    refine KIret C rfl rfl (by
      exact hlift _ _ ⟨1, 0, sgM T q, (by unfold oIa; exact if_neg (by omega)), rfl, MP.thr hT hCn 1⟩) (by decide) (by decide) dX6_inAisle_24
def P_X6_lengthThrough (S : Sto) (q : Nat → Nat) (b : Int) : Option Value → Sto → Prop := fun v u => ∃ c r z', oTh (sgM S q) b = (c, r, z') ∧ v = some (.int (iI r)) ∧ MP S q u c z'
set_option maxRecDepth 100000 in
set_option maxHeartbeats 4000000 in
theorem ct_X6_lengthThrough (l : Launch) (g : GG) (S : Sto) (q : Nat → Nat) (b : Int) (hT : Top S q) (hW : Wf (sgM S q)) (hCn : Cn S q) (hib : inR b) : MetS l g yX6_lengthThrough cX6_lengthThrough 5 (some FieldType.int) 4 0 0 [.ref (q 80), .int (iI b)] S (P_X6_lengthThrough S q b) := by
  refine MetS.of (own := RX6) (lv := [(0, .ref (q 80)), (1, .int (iI b))]) (by decide) rfl (Nat.le_of_ble_eq_true rfl) rfl ?_
  intro pX eX sX mX argsX belowX methX cX C hin
  refine KRg (fun hR => ?_)
  obtain ⟨b1, b2⟩ := id hib
  refine KAload_n C dX6_lengthThrough_0 rfl 0 rfl ?_
  refine KIconst C dX6_lengthThrough_1 ?_
  obtain ⟨T, hTT, hT9, hW, hCn, h00, hz, hM⟩ := MP.start hT hW hCn
  refine KPutI (ty := .int) (v := 0) C ul_X6 rfl (by decide) 0 0 rfl (by decide) rfl u_fl_RX6_59 tyX6 tyX6_ok nmX6 (hT.at0 80 7) ⟨by omega, by omega⟩ (by decide +kernel) rfl rfl rfl dX6_lengthThrough_2 (fun _ h => h) ?_
  refine KSto (S2 := T) hTT.symm ?_
  have hT := hT9
  have hlift : ∀ v u, P_X6_lengthThrough T q b v u → P_X6_lengthThrough S q b v u := fun v u ⟨c, r, z', h1, h2, h3⟩ => ⟨c, r, z', hz ▸ h1, h2, hM.trans h3⟩
  refine KRg (fun hR => ?_)
  obtain ⟨hc6, hc13⟩ := id hCn
  have hCm : CfM T q := hW.cf
  obtain ⟨hA1, hA2, hN1, hN2, hG1, hG2⟩ := id hCm
  obtain ⟨ho40, hbo⟩ := hW.2.1
  have ezA : zA (sgM T q) = sI T (q 80) 1 := rfl
  have ezN : zN (sgM T q) = sI T (q 80) 2 := rfl
  refine KAload_n C dX6_lengthThrough_5 rfl 0 rfl ?_
  refine KIload_n C dX6_lengthThrough_6 rfl 1 rfl ?_
  refine KCallV (As := [.int (iI b)]) (b := q 80) (st := []) C (ct_X6_isBatch l g T q b hT (⟨by omega, by omega⟩) (by omega)) u_ml_RX6_130 u_im_yX6_isBatch u_se_yX6_isBatch u_in_RX6 u_co_yX6_isBatch hd_yX6_isBatch (hT.at0 80 7) (by decide) rfl rfl ⟨Nat.le_of_ble_eq_true rfl, Nat.le_of_ble_eq_true rfl⟩ ⟨Nat.le_of_ble_eq_true rfl, Nat.le_of_ble_eq_true rfl⟩ (Nat.le_of_ble_eq_true rfl) dX6_lengthThrough_7 rfl (fun v7 u7 hp7 => ?_)
  obtain ⟨⟨b7, rfl⟩ | ⟨b7, rfl⟩, rfl⟩ := hp7
  · refine KSt (st2 := [.int (iI 1)]) rfl ?_
    have hba : isBa (sgM T q) b := ⟨by omega, by omega⟩
    have hokb := hW.okBI (b := b) ⟨by omega, by omega⟩
    have hcb9 := hokb.2.1
    refine KIf_ne (tgt := 19) C dX6_lengthThrough_10 (by decide) ⟨by omega, by omega⟩ (fun _ => ?_) (fun h => absurd h (by decide))
    refine KIconst C dX6_lengthThrough_19 ?_
    refine KIstore_n (lv' := [(2, .int (iI 0)), (0, .ref (q 80)), (1, .int (iI b))]) C dX6_lengthThrough_20 rfl (by decide) rfl ?_
    refine KIconst C dX6_lengthThrough_21 ?_
    refine KIstore_n (lv' := [(3, .int (iI 0)), (2, .int (iI 0)), (0, .ref (q 80)), (1, .int (iI b))]) C dX6_lengthThrough_22 rfl (by decide) rfl ?_
    refine KIconst C dX6_lengthThrough_23 ?_
    refine KIstore (lv' := [(4, .int (iI 0)), (3, .int (iI 0)), (2, .int (iI 0)), (0, .ref (q 80)), (1, .int (iI b))]) C dX6_lengthThrough_24 (by decide) rfl ?_
    refine KLv (lv' := [(0, .ref (q 80)), (1, .int (iI b)), (2, .int (iI 0)), (3, .int (iI 0)), (4, .int (iI 0))]) [3, 4, 2, 1, 0] rfl ?_
    have loop26 : ∀ (nX : Nat) (n : Nat), 6 - n < nX → ((n : Int) ≤ sI T (q 80) 1) → Wk pX l eX (rmK 4 0 0) sX mX argsX belowX methX cX (MQ belowX (QcG g (P_X6_lengthThrough S q b)) argsX sX 0 0 (ge (gB g))) g 5 0 0 26 [(0, .ref (q 80)), (1, .int (iI b)), (2, .int (iI (lsA (sgM T q) b n))), (3, .int (iI (wtA (sgM T q) b n))), (4, .int (iI (n : Int)))] [] T := by
      intro nX
      induction nX with
      | zero => intro n hm; exact absurd hm (Nat.not_lt_zero _)
      | succ nX ih26 =>
        intro n hm26 hn
        refine KRg (fun hR => ?_)
        have hls := lsA_b (sgM T q) b n
        refine KIload C dX6_lengthThrough_26 4 rfl ?_
        refine KAload_n C dX6_lengthThrough_28 rfl 0 rfl ?_
        refine KGetI (S := T) C ul_X6 rfl (by decide) 1 1 rfl (by decide) rfl u_fl_RX6_50 (hT.at0 80 7) (v := sI T (q 80) 1) rfl dX6_lengthThrough_29 (fun _ h => h) ?_
        have rb1 := hR.b (q 80) 1 (v := sI T (q 80) 1) rfl
        refine KIcmp_ge (tgt := 76) C dX6_lengthThrough_32 (by decide) ⟨by omega, by omega⟩ ⟨by omega, by omega⟩ (fun c32 => ?_) (fun c32 => ?_)
        · have hnA : zA (sgM T q) = (n : Int) := by omega
          refine KIload_n C dX6_lengthThrough_76 rfl 3 rfl ?_
          refine KIconst C dX6_lengthThrough_77 ?_
          refine KIrem (z := (wtA (sgM T q) b n) % 2) C dX6_lengthThrough_78 ⟨by omega, by omega⟩ ⟨by omega, by omega⟩ (by omega) (tmod_pos (by omega)) ?_
          refine KIconst C dX6_lengthThrough_79 ?_
          refine KIcmp_ne (tgt := 94) C dX6_lengthThrough_80 (by decide) ⟨by omega, by omega⟩ ⟨by omega, by omega⟩ (fun c80 => ?_) (fun c80 => ?_)
          · refine KAload_n C dX6_lengthThrough_94 rfl 0 rfl ?_
            refine KGetI (S := T) C ul_X6 rfl (by decide) 2 2 rfl (by decide) rfl u_fl_RX6_53 (hT.at0 80 7) (v := sI T (q 80) 2) rfl dX6_lengthThrough_95 (fun _ h => h) ?_
            have rb2 := hR.b (q 80) 2 (v := sI T (q 80) 2) rfl
            refine KIconst C dX6_lengthThrough_98 ?_
            refine KIadd C dX6_lengthThrough_99 ?_
            refine KIstore (lv' := [(4, .int (iI ((sI T (q 80) 2) + 1))), (0, .ref (q 80)), (1, .int (iI b)), (2, .int (iI (lsA (sgM T q) b n))), (3, .int (iI (wtA (sgM T q) b n)))]) C dX6_lengthThrough_100 (by decide) rfl ?_
            refine KIconst C dX6_lengthThrough_102 ?_
            refine KIload_n C dX6_lengthThrough_103 rfl 3 rfl ?_
            refine KImul C dX6_lengthThrough_104 ?_
            refine KAload_n C dX6_lengthThrough_105 rfl 1 rfl ?_
            refine KGetI (S := T) C ul_X6 rfl (by decide) 3 3 rfl (by decide) rfl u_fl_RX6_56 (hT.at0 80 7) (v := sI T (q 80) 3) rfl dX6_lengthThrough_106 (fun _ h => h) ?_
            have rb3 := hR.b (q 80) 3 (v := sI T (q 80) 3) rfl
            refine KImul C dX6_lengthThrough_109 ?_
            refine KIload_n C dX6_lengthThrough_110 rfl 4 rfl ?_
            refine KIconst C dX6_lengthThrough_111 ?_
            refine KIsub C dX6_lengthThrough_112 ?_
            refine KAload_n C dX6_lengthThrough_113 rfl 1 rfl ?_
            refine KGetI (S := T) C ul_X6 rfl (by decide) 2 2 rfl (by decide) rfl u_fl_RX6_53 (hT.at0 80 7) (v := sI T (q 80) 2) rfl dX6_lengthThrough_114 (fun _ h => h) ?_
            have rb4 := hR.b (q 80) 2 (v := sI T (q 80) 2) rfl
            refine KIconst C dX6_lengthThrough_117 ?_
            refine KIadd C dX6_lengthThrough_118 ?_
            refine KImul C dX6_lengthThrough_119 ?_
            refine KIadd C dX6_lengthThrough_120 ?_
            refine KIload C dX6_lengthThrough_121 0 rfl ?_
            refine KIadd C dX6_lengthThrough_123 ?_
            refine KIret C rfl rfl (by
              exact hlift _ _ ⟨0, zth (sgM T q) b, sgM T q, (by unfold oTh; exact if_pos hba), congrArg (fun z9 => some (Value.int (iI z9))) (zth_eq hnA (by first | exact Or.inl ⟨by omega, rfl⟩ | exact Or.inr ⟨by omega, rfl⟩)), MP.refl0 hCn h00⟩) (by decide) (by decide) dX6_lengthThrough_124
          · refine KIconst C dX6_lengthThrough_83 ?_
            refine KAload_n C dX6_lengthThrough_84 rfl 0 rfl ?_
            refine KIload_n C dX6_lengthThrough_85 rfl 1 rfl ?_
            refine KIload_n C dX6_lengthThrough_86 rfl 2 rfl ?_
            refine KCallV (As := [.int (iI b), .int (iI (lsA (sgM T q) b n))]) (b := q 80) (st := [.int (iI 2)]) C (ct_X6_farthest l g T q b (lsA (sgM T q) b n) hT hW hCn (by omega) (by omega)) u_ml_RX6_140 u_im_yX6_farthest u_se_yX6_farthest u_in_RX6 u_co_yX6_farthest hd_yX6_farthest (hT.at0 80 7) (by decide) rfl rfl ⟨Nat.le_of_ble_eq_true rfl, Nat.le_of_ble_eq_true rfl⟩ ⟨Nat.le_of_ble_eq_true rfl, Nat.le_of_ble_eq_true rfl⟩ (Nat.le_of_ble_eq_true rfl) dX6_lengthThrough_87 rfl (fun v87 u87 hp87 => ?_)
            obtain ⟨rfl, rfl⟩ := hp87
            refine KSt (st2 := [.int (iI (zfr (sgM T q) b (lsA (sgM T q) b n))), .int (iI 2)]) rfl ?_
            refine KRg (fun hR => ?_)
            refine KImul C dX6_lengthThrough_90 ?_
            refine KGoto (tgt := 100) C dX6_lengthThrough_91 (by decide) ?_
            refine KIstore (lv' := [(4, .int (iI (2 * (zfr (sgM T q) b (lsA (sgM T q) b n))))), (0, .ref (q 80)), (1, .int (iI b)), (2, .int (iI (lsA (sgM T q) b n))), (3, .int (iI (wtA (sgM T q) b n)))]) C dX6_lengthThrough_100 (by decide) rfl ?_
            refine KIconst C dX6_lengthThrough_102 ?_
            refine KIload_n C dX6_lengthThrough_103 rfl 3 rfl ?_
            refine KImul C dX6_lengthThrough_104 ?_
            refine KAload_n C dX6_lengthThrough_105 rfl 1 rfl ?_
            refine KGetI (S := T) C ul_X6 rfl (by decide) 3 3 rfl (by decide) rfl u_fl_RX6_56 (hT.at0 80 7) (v := sI T (q 80) 3) rfl dX6_lengthThrough_106 (fun _ h => h) ?_
            have rb5 := hR.b (q 80) 3 (v := sI T (q 80) 3) rfl
            refine KImul C dX6_lengthThrough_109 ?_
            refine KIload_n C dX6_lengthThrough_110 rfl 4 rfl ?_
            refine KIconst C dX6_lengthThrough_111 ?_
            refine KIsub C dX6_lengthThrough_112 ?_
            refine KAload_n C dX6_lengthThrough_113 rfl 1 rfl ?_
            refine KGetI (S := T) C ul_X6 rfl (by decide) 2 2 rfl (by decide) rfl u_fl_RX6_53 (hT.at0 80 7) (v := sI T (q 80) 2) rfl dX6_lengthThrough_114 (fun _ h => h) ?_
            have rb6 := hR.b (q 80) 2 (v := sI T (q 80) 2) rfl
            refine KIconst C dX6_lengthThrough_117 ?_
            refine KIadd C dX6_lengthThrough_118 ?_
            refine KImul C dX6_lengthThrough_119 ?_
            refine KIadd C dX6_lengthThrough_120 ?_
            refine KIload C dX6_lengthThrough_121 0 rfl ?_
            refine KIadd C dX6_lengthThrough_123 ?_
            refine KIret C rfl rfl (by
              exact hlift _ _ ⟨0, zth (sgM T q) b, sgM T q, (by unfold oTh; exact if_pos hba), congrArg (fun z9 => some (Value.int (iI z9))) (zth_eq hnA (by first | exact Or.inl ⟨by omega, rfl⟩ | exact Or.inr ⟨by omega, rfl⟩)), MP.refl0 hCn h00⟩) (by decide) (by decide) dX6_lengthThrough_124
        · refine KAload_n C dX6_lengthThrough_35 rfl 0 rfl ?_
          refine KIload_n C dX6_lengthThrough_36 rfl 1 rfl ?_
          refine KIload C dX6_lengthThrough_37 4 rfl ?_
          refine KCallV (As := [.int (iI b), .int (iI (n : Int))]) (b := q 80) (st := []) C (ct_X6_farthest l g T q b (n : Int) hT hW hCn (by omega) (by omega)) u_ml_RX6_140 u_im_yX6_farthest u_se_yX6_farthest u_in_RX6 u_co_yX6_farthest hd_yX6_farthest (hT.at0 80 7) (by decide) rfl rfl ⟨Nat.le_of_ble_eq_true rfl, Nat.le_of_ble_eq_true rfl⟩ ⟨Nat.le_of_ble_eq_true rfl, Nat.le_of_ble_eq_true rfl⟩ (Nat.le_of_ble_eq_true rfl) dX6_lengthThrough_39 rfl (fun v39 u39 hp39 => ?_)
          obtain ⟨rfl, rfl⟩ := hp39
          refine KSt (st2 := [.int (iI (zfr (sgM T q) b (n : Int)))]) rfl ?_
          refine KRg (fun hR => ?_)
          have hfb1 := fr_b (zP (sgM T q)) (zpd (sgM T q) b) (n : Int) 20
          change 0 ≤ zfr (sgM T q) b (n : Int) ∧ zfr (sgM T q) b (n : Int) ≤ 99 at hfb1
          refine KIf_le (tgt := 50) C dX6_lengthThrough_42 (by decide) ⟨by omega, by omega⟩ (fun c42 => ?_) (fun c42 => ?_)
          · refine KIload_n C dX6_lengthThrough_50 rfl 2 rfl ?_
            refine KTop (congrArg iI (show lsA (sgM T q) b n = lsA (sgM T q) b (n + 1) from (by first | exact ls_t (by omega) | exact ls_f (by omega)))) ?_
            refine KIstore_n (lv' := [(2, .int (iI (lsA (sgM T q) b (n + 1)))), (0, .ref (q 80)), (1, .int (iI b)), (3, .int (iI (wtA (sgM T q) b n))), (4, .int (iI (n : Int)))]) C dX6_lengthThrough_51 rfl (by decide) rfl ?_
            refine KIload_n C dX6_lengthThrough_52 rfl 3 rfl ?_
            refine KAload_n C dX6_lengthThrough_53 rfl 1 rfl ?_
            refine KIload_n C dX6_lengthThrough_54 rfl 2 rfl ?_
            refine KIload C dX6_lengthThrough_55 4 rfl ?_
            refine KCallV (As := [.int (iI b), .int (iI (n : Int))]) (b := q 80) (st := [.int (iI (wtA (sgM T q) b n))]) C (ct_X6_farthest l g T q b (n : Int) hT hW hCn (by omega) (by omega)) u_ml_RX6_140 u_im_yX6_farthest u_se_yX6_farthest u_in_RX6 u_co_yX6_farthest hd_yX6_farthest (hT.at0 80 7) (by decide) rfl rfl ⟨Nat.le_of_ble_eq_true rfl, Nat.le_of_ble_eq_true rfl⟩ ⟨Nat.le_of_ble_eq_true rfl, Nat.le_of_ble_eq_true rfl⟩ (Nat.le_of_ble_eq_true rfl) dX6_lengthThrough_57 rfl (fun v57 u57 hp57 => ?_)
            obtain ⟨rfl, rfl⟩ := hp57
            refine KSt (st2 := [.int (iI (zfr (sgM T q) b (n : Int))), .int (iI (wtA (sgM T q) b n))]) rfl ?_
            refine KRg (fun hR => ?_)
            have hfb2 := fr_b (zP (sgM T q)) (zpd (sgM T q) b) (n : Int) 20
            change 0 ≤ zfr (sgM T q) b (n : Int) ∧ zfr (sgM T q) b (n : Int) ≤ 99 at hfb2
            refine KIf_le (tgt := 67) C dX6_lengthThrough_60 (by decide) ⟨by omega, by omega⟩ (fun c60 => ?_) (fun c60 => ?_)
            · refine KIconst C dX6_lengthThrough_67 ?_
              refine KIadd C dX6_lengthThrough_68 ?_
              refine KTop (congrArg iI (show (wtA (sgM T q) b n) + 0 = wtA (sgM T q) b (n + 1) from (by first | exact wt_t (by omega) | exact wt_f (by omega)))) ?_
              refine KIstore_n (lv' := [(3, .int (iI (wtA (sgM T q) b (n + 1)))), (2, .int (iI (lsA (sgM T q) b (n + 1)))), (0, .ref (q 80)), (1, .int (iI b)), (4, .int (iI (n : Int)))]) C dX6_lengthThrough_69 rfl (by decide) rfl ?_
              refine KIinc (v := ((n + 1 : Nat) : Int)) (lv' := [(4, .int (iI ((n + 1 : Nat) : Int))), (3, .int (iI (wtA (sgM T q) b (n + 1)))), (2, .int (iI (lsA (sgM T q) b (n + 1)))), (0, .ref (q 80)), (1, .int (iI b))]) C dX6_lengthThrough_70 4 rfl (by omega) (by decide) rfl ?_
              refine KGoto (tgt := 26) C dX6_lengthThrough_73 (by decide) ?_
              refine KLv (lv' := [(0, .ref (q 80)), (1, .int (iI b)), (2, .int (iI (lsA (sgM T q) b (n + 1)))), (3, .int (iI (wtA (sgM T q) b (n + 1)))), (4, .int (iI ((n + 1 : Nat) : Int)))]) [3, 4, 2, 1, 0] rfl ?_
              exact ih26 (n + 1) (by omega) (by omega)
            · refine KIconst C dX6_lengthThrough_63 ?_
              refine KGoto (tgt := 68) C dX6_lengthThrough_64 (by decide) ?_
              refine KIadd C dX6_lengthThrough_68 ?_
              refine KTop (congrArg iI (show (wtA (sgM T q) b n) + 1 = wtA (sgM T q) b (n + 1) from (by first | exact wt_t (by omega) | exact wt_f (by omega)))) ?_
              refine KIstore_n (lv' := [(3, .int (iI (wtA (sgM T q) b (n + 1)))), (2, .int (iI (lsA (sgM T q) b (n + 1)))), (0, .ref (q 80)), (1, .int (iI b)), (4, .int (iI (n : Int)))]) C dX6_lengthThrough_69 rfl (by decide) rfl ?_
              refine KIinc (v := ((n + 1 : Nat) : Int)) (lv' := [(4, .int (iI ((n + 1 : Nat) : Int))), (3, .int (iI (wtA (sgM T q) b (n + 1)))), (2, .int (iI (lsA (sgM T q) b (n + 1)))), (0, .ref (q 80)), (1, .int (iI b))]) C dX6_lengthThrough_70 4 rfl (by omega) (by decide) rfl ?_
              refine KGoto (tgt := 26) C dX6_lengthThrough_73 (by decide) ?_
              refine KLv (lv' := [(0, .ref (q 80)), (1, .int (iI b)), (2, .int (iI (lsA (sgM T q) b (n + 1)))), (3, .int (iI (wtA (sgM T q) b (n + 1)))), (4, .int (iI ((n + 1 : Nat) : Int)))]) [3, 4, 2, 1, 0] rfl ?_
              exact ih26 (n + 1) (by omega) (by omega)
          · refine KIload C dX6_lengthThrough_45 4 rfl ?_
            refine KGoto (tgt := 51) C dX6_lengthThrough_47 (by decide) ?_
            refine KTop (congrArg iI (show (n : Int) = lsA (sgM T q) b (n + 1) from (by first | exact ls_t (by omega) | exact ls_f (by omega)))) ?_
            refine KIstore_n (lv' := [(2, .int (iI (lsA (sgM T q) b (n + 1)))), (0, .ref (q 80)), (1, .int (iI b)), (3, .int (iI (wtA (sgM T q) b n))), (4, .int (iI (n : Int)))]) C dX6_lengthThrough_51 rfl (by decide) rfl ?_
            refine KIload_n C dX6_lengthThrough_52 rfl 3 rfl ?_
            refine KAload_n C dX6_lengthThrough_53 rfl 1 rfl ?_
            refine KIload_n C dX6_lengthThrough_54 rfl 2 rfl ?_
            refine KIload C dX6_lengthThrough_55 4 rfl ?_
            refine KCallV (As := [.int (iI b), .int (iI (n : Int))]) (b := q 80) (st := [.int (iI (wtA (sgM T q) b n))]) C (ct_X6_farthest l g T q b (n : Int) hT hW hCn (by omega) (by omega)) u_ml_RX6_140 u_im_yX6_farthest u_se_yX6_farthest u_in_RX6 u_co_yX6_farthest hd_yX6_farthest (hT.at0 80 7) (by decide) rfl rfl ⟨Nat.le_of_ble_eq_true rfl, Nat.le_of_ble_eq_true rfl⟩ ⟨Nat.le_of_ble_eq_true rfl, Nat.le_of_ble_eq_true rfl⟩ (Nat.le_of_ble_eq_true rfl) dX6_lengthThrough_57 rfl (fun v57 u57 hp57 => ?_)
            obtain ⟨rfl, rfl⟩ := hp57
            refine KSt (st2 := [.int (iI (zfr (sgM T q) b (n : Int))), .int (iI (wtA (sgM T q) b n))]) rfl ?_
            refine KRg (fun hR => ?_)
            have hfb2 := fr_b (zP (sgM T q)) (zpd (sgM T q) b) (n : Int) 20
            change 0 ≤ zfr (sgM T q) b (n : Int) ∧ zfr (sgM T q) b (n : Int) ≤ 99 at hfb2
            refine KIf_le (tgt := 67) C dX6_lengthThrough_60 (by decide) ⟨by omega, by omega⟩ (fun c60 => ?_) (fun c60 => ?_)
            · refine KIconst C dX6_lengthThrough_67 ?_
              refine KIadd C dX6_lengthThrough_68 ?_
              refine KTop (congrArg iI (show (wtA (sgM T q) b n) + 0 = wtA (sgM T q) b (n + 1) from (by first | exact wt_t (by omega) | exact wt_f (by omega)))) ?_
              refine KIstore_n (lv' := [(3, .int (iI (wtA (sgM T q) b (n + 1)))), (2, .int (iI (lsA (sgM T q) b (n + 1)))), (0, .ref (q 80)), (1, .int (iI b)), (4, .int (iI (n : Int)))]) C dX6_lengthThrough_69 rfl (by decide) rfl ?_
              refine KIinc (v := ((n + 1 : Nat) : Int)) (lv' := [(4, .int (iI ((n + 1 : Nat) : Int))), (3, .int (iI (wtA (sgM T q) b (n + 1)))), (2, .int (iI (lsA (sgM T q) b (n + 1)))), (0, .ref (q 80)), (1, .int (iI b))]) C dX6_lengthThrough_70 4 rfl (by omega) (by decide) rfl ?_
              refine KGoto (tgt := 26) C dX6_lengthThrough_73 (by decide) ?_
              refine KLv (lv' := [(0, .ref (q 80)), (1, .int (iI b)), (2, .int (iI (lsA (sgM T q) b (n + 1)))), (3, .int (iI (wtA (sgM T q) b (n + 1)))), (4, .int (iI ((n + 1 : Nat) : Int)))]) [3, 4, 2, 1, 0] rfl ?_
              exact ih26 (n + 1) (by omega) (by omega)
            · refine KIconst C dX6_lengthThrough_63 ?_
              refine KGoto (tgt := 68) C dX6_lengthThrough_64 (by decide) ?_
              refine KIadd C dX6_lengthThrough_68 ?_
              refine KTop (congrArg iI (show (wtA (sgM T q) b n) + 1 = wtA (sgM T q) b (n + 1) from (by first | exact wt_t (by omega) | exact wt_f (by omega)))) ?_
              refine KIstore_n (lv' := [(3, .int (iI (wtA (sgM T q) b (n + 1)))), (2, .int (iI (lsA (sgM T q) b (n + 1)))), (0, .ref (q 80)), (1, .int (iI b)), (4, .int (iI (n : Int)))]) C dX6_lengthThrough_69 rfl (by decide) rfl ?_
              refine KIinc (v := ((n + 1 : Nat) : Int)) (lv' := [(4, .int (iI ((n + 1 : Nat) : Int))), (3, .int (iI (wtA (sgM T q) b (n + 1)))), (2, .int (iI (lsA (sgM T q) b (n + 1)))), (0, .ref (q 80)), (1, .int (iI b))]) C dX6_lengthThrough_70 4 rfl (by omega) (by decide) rfl ?_
              refine KGoto (tgt := 26) C dX6_lengthThrough_73 (by decide) ?_
              refine KLv (lv' := [(0, .ref (q 80)), (1, .int (iI b)), (2, .int (iI (lsA (sgM T q) b (n + 1)))), (3, .int (iI (wtA (sgM T q) b (n + 1)))), (4, .int (iI ((n + 1 : Nat) : Int)))]) [3, 4, 2, 1, 0] rfl ?_
              exact ih26 (n + 1) (by omega) (by omega)
    exact loop26 _ 0 (Nat.lt_succ_self _) (by omega)
  · refine KSt (st2 := [.int (iI 0)]) rfl ?_
    have hba : ¬ isBa (sgM T q) b := fun h9 => b7 ⟨h9.1, by have := h9.2; omega⟩
    refine KIf_ne (tgt := 19) C dX6_lengthThrough_10 (by decide) ⟨by omega, by omega⟩ (fun h => absurd h (by decide)) (fun _ => ?_)
    refine KAload_n C dX6_lengthThrough_13 rfl 0 rfl ?_
    refine KIconst C dX6_lengthThrough_14 ?_
    refine KCallV (As := [.int (iI 1)]) (b := q 80) (st := []) C (ct_X6_fails l g T q 1 hT (by omega)) u_ml_RX6_94 u_im_yX6_fails u_se_yX6_fails u_in_RX6 u_co_yX6_fails hd_yX6_fails (hT.at0 80 7) (by decide) rfl rfl ⟨Nat.le_of_ble_eq_true rfl, Nat.le_of_ble_eq_true rfl⟩ ⟨Nat.le_of_ble_eq_true rfl, Nat.le_of_ble_eq_true rfl⟩ (Nat.le_of_ble_eq_true rfl) dX6_lengthThrough_15 rfl (fun v15 u15 hp15 => ?_)
    obtain ⟨rfl, rfl⟩ := hp15
    refine KSt (st2 := [.int (iI 0)]) rfl ?_
    refine KRg (fun hR => ?_)
    refine KIret C rfl rfl (by
      exact hlift _ _ ⟨1, 0, sgM T q, (by unfold oTh; exact if_neg hba), rfl, MP.thr hT hCn 1⟩) (by decide) (by decide) dX6_lengthThrough_18
def P_X6_stopAt (S : Sto) (q : Nat → Nat) (b : Int) (k : Int) : Option Value → Sto → Prop := fun v u => ∃ c r z', oSa (sgM S q) b k = (c, r, z') ∧ v = some (.int (iI r)) ∧ MP S q u c z'
set_option maxRecDepth 100000 in
set_option maxHeartbeats 4000000 in
theorem ct_X6_stopAt (l : Launch) (g : GG) (S : Sto) (q : Nat → Nat) (b : Int) (k : Int) (hT : Top S q) (hW : Wf (sgM S q)) (hCn : Cn S q) (hib : inR b) (hik : inR k) : MetS l g yX6_stopAt cX6_stopAt 3 (some FieldType.int) 6 0 0 [.ref (q 80), .int (iI b), .int (iI k)] S (P_X6_stopAt S q b k) := by
  refine MetS.of (own := RX6) (lv := [(0, .ref (q 80)), (1, .int (iI b)), (2, .int (iI k))]) (by decide) rfl (Nat.le_of_ble_eq_true rfl) rfl ?_
  intro pX eX sX mX argsX belowX methX cX C hin
  refine KRg (fun hR => ?_)
  obtain ⟨b1, b2⟩ := id hib
  obtain ⟨k1, k2⟩ := id hik
  refine KAload_n C dX6_stopAt_0 rfl 0 rfl ?_
  refine KIconst C dX6_stopAt_1 ?_
  obtain ⟨T, hTT, hT9, hW, hCn, h00, hz, hM⟩ := MP.start hT hW hCn
  refine KPutI (ty := .int) (v := 0) C ul_X6 rfl (by decide) 0 0 rfl (by decide) rfl u_fl_RX6_59 tyX6 tyX6_ok nmX6 (hT.at0 80 7) ⟨by omega, by omega⟩ (by decide +kernel) rfl rfl rfl dX6_stopAt_2 (fun _ h => h) ?_
  refine KSto (S2 := T) hTT.symm ?_
  have hT := hT9
  have hlift : ∀ v u, P_X6_stopAt T q b k v u → P_X6_stopAt S q b k v u := fun v u ⟨c, r, z', h1, h2, h3⟩ => ⟨c, r, z', hz ▸ h1, h2, hM.trans h3⟩
  refine KRg (fun hR => ?_)
  obtain ⟨hc6, hc13⟩ := id hCn
  have hCm : CfM T q := hW.cf
  obtain ⟨hA1, hA2, hN1, hN2, hG1, hG2⟩ := id hCm
  obtain ⟨ho40, hbo⟩ := hW.2.1
  have ezA : zA (sgM T q) = sI T (q 80) 1 := rfl
  have ezN : zN (sgM T q) = sI T (q 80) 2 := rfl
  refine KAload_n C dX6_stopAt_5 rfl 0 rfl ?_
  refine KIload_n C dX6_stopAt_6 rfl 1 rfl ?_
  refine KCallV (As := [.int (iI b)]) (b := q 80) (st := []) C (ct_X6_isBatch l g T q b hT (⟨by omega, by omega⟩) (by omega)) u_ml_RX6_130 u_im_yX6_isBatch u_se_yX6_isBatch u_in_RX6 u_co_yX6_isBatch hd_yX6_isBatch (hT.at0 80 7) (by decide) rfl rfl ⟨Nat.le_of_ble_eq_true rfl, Nat.le_of_ble_eq_true rfl⟩ ⟨Nat.le_of_ble_eq_true rfl, Nat.le_of_ble_eq_true rfl⟩ (Nat.le_of_ble_eq_true rfl) dX6_stopAt_7 rfl (fun v7 u7 hp7 => ?_)
  obtain ⟨⟨b7, rfl⟩ | ⟨b7, rfl⟩, rfl⟩ := hp7
  · refine KSt (st2 := [.int (iI 1)]) rfl ?_
    have hba : isBa (sgM T q) b := ⟨by omega, by omega⟩
    have hokb := hW.okBI (b := b) ⟨by omega, by omega⟩
    have hcb9 := hokb.2.1
    refine KIf_ne (tgt := 19) C dX6_stopAt_10 (by decide) ⟨by omega, by omega⟩ (fun _ => ?_) (fun h => absurd h (by decide))
    refine KAload_n C dX6_stopAt_19 rfl 0 rfl ?_
    refine KAload_n C dX6_stopAt_20 rfl 0 rfl ?_
    refine KIload_n C dX6_stopAt_21 rfl 1 rfl ?_
    refine KCallV (As := [.int (iI b)]) (b := q 80) (st := [.ref (q 80)]) C (ct_X6_productsOf l g T q b hT hW.wl hCn (by omega)) u_ml_RX6_120 u_im_yX6_productsOf u_se_yX6_productsOf u_in_RX6 u_co_yX6_productsOf hd_yX6_productsOf (hT.at0 80 7) (by decide) rfl rfl ⟨Nat.le_of_ble_eq_true rfl, Nat.le_of_ble_eq_true rfl⟩ ⟨Nat.le_of_ble_eq_true rfl, Nat.le_of_ble_eq_true rfl⟩ (Nat.le_of_ble_eq_true rfl) dX6_stopAt_22 rfl (fun v22 u22 hp22 => ?_)
    obtain ⟨rfl, rfl⟩ := hp22
    refine KSt (st2 := [.int (iI ((zpd (sgM T q) b : Nat) : Int)), .ref (q 80)]) rfl ?_
    refine KRg (fun hR => ?_)
    refine KCallV (As := [.int (iI ((zpd (sgM T q) b : Nat) : Int))]) (b := q 80) (st := []) C (ct_X6_layPath l g T q (zpd (sgM T q) b) hT hCm hokb) u_ml_RX6_143 u_im_yX6_layPath u_se_yX6_layPath u_in_RX6 u_co_yX6_layPath hd_yX6_layPath (hT.at0 80 7) (by decide) rfl rfl ⟨Nat.le_of_ble_eq_true rfl, Nat.le_of_ble_eq_true rfl⟩ ⟨Nat.le_of_ble_eq_true rfl, Nat.le_of_ble_eq_true rfl⟩ (Nat.le_of_ble_eq_true rfl) dX6_stopAt_25 rfl (fun v25 u25 hp25 => ?_)
    obtain ⟨rfl, f25, rfl, hK25, hs25, hst25, hpa25⟩ := hp25
    refine KSt (st2 := []) rfl ?_
    refine KRg (fun hR => ?_)
    refine KIload_n C dX6_stopAt_28 rfl 2 rfl ?_
    refine KIconst C dX6_stopAt_29 ?_
    refine KAload_n C dX6_stopAt_30 rfl 0 rfl ?_
    refine KGetI (S := wI T f25) C ul_X6 rfl (by decide) 16 16 rfl (by decide) rfl u_fl_RX6_76 (hT.at0 80 7) (v := ((cntb (zpd (sgM T q) b) 20 : Nat) : Int)) (hs25.trans (congrArg (fun x : Nat => (x : Int)) (sl_len _ _ _))) dX6_stopAt_31 (fun _ h => h) ?_
    have rb1 := hR.b (q 80) 16 (v := ((cntb (zpd (sgM T q) b) 20 : Nat) : Int)) (hs25.trans (congrArg (fun x : Nat => (x : Int)) (sl_len _ _ _)))
    refine KIconst C dX6_stopAt_34 ?_
    refine KIsub C dX6_stopAt_35 ?_
    refine KCallS (As := [.int (iI k), .int (iI 0), .int (iI (((cntb (zpd (sgM T q) b) 20 : Nat) : Int) - 1))]) (st := []) C (ct_X6_in l g (wI T f25) k 0 (((cntb (zpd (sgM T q) b) 20 : Nat) : Int) - 1) (⟨by omega, by omega⟩) (⟨by omega, by omega⟩) (⟨by omega, by omega⟩)) u_ml_RX6_62 u_st_yX6_in u_in_RX6 u_co_yX6_in hd_yX6_in ⟨Nat.le_of_ble_eq_true rfl, Nat.le_of_ble_eq_true rfl⟩ ⟨Nat.le_of_ble_eq_true rfl, Nat.le_of_ble_eq_true rfl⟩ (Nat.le_of_ble_eq_true rfl) dX6_stopAt_36 rfl (fun v36 u36 hp36 => ?_)
    obtain ⟨⟨b36, rfl⟩ | ⟨b36, rfl⟩, rfl⟩ := hp36
    · refine KSt (st2 := [.int (iI 1)]) rfl ?_
      obtain ⟨y, hy⟩ : ∃ y : Nat, k = (y : Int) := ⟨k.toNat, by omega⟩
      have hyl : y < (slm T q (zpd (sgM T q) b)).length := by rw [show (slm T q (zpd (sgM T q) b)).length = cntb (zpd (sgM T q) b) 20 from sl_len _ _ _]; omega
      have hrb := (rtS_bit (okM_okDm hCm hokb) hyl).1
      have hlen9 : (slm T q (zpd (sgM T q) b)).length ≤ 9 := by rw [show (slm T q (zpd (sgM T q) b)).length = cntb (zpd (sgM T q) b) 20 from sl_len _ _ _]; exact hcb9
      have hsm := (sl_mem (sI T (q 81)) (zpd (sgM T q) b) 20 _ hrb).1
      change (slm T q (zpd (sgM T q) b)).getD (rtS (dmM T q (zpd (sgM T q) b)) (slm T q (zpd (sgM T q) b)).length (y + 1)).1 0 < 20 at hsm
      refine KLvE (lv2 := [(0, .ref (q 80)), (1, .int (iI b)), (2, .int (iI (y : Int)))]) (congrArg (fun zz : Int => ([(0, .ref (q 80)), (1, .int (iI b)), (2, .int (iI zz))] : List (Nat × Value))) (show (k : Int) = (y : Int) from hy)) ?_
      refine KIf_eq (tgt := 61) C dX6_stopAt_39 (by decide) ⟨by omega, by omega⟩ (fun h => absurd h (by decide)) (fun _ => ?_)
      refine KAload_n C dX6_stopAt_42 rfl 0 rfl ?_
      refine KGetR (S := wI T f25) C ul_X6 rfl (by decide) 5 5 rfl (by decide) rfl u_fl_RX6_13 (hT.at0 80 7) (b := q 81) (hT.ptr 80 5 81) dX6_stopAt_43 (fun _ h => h) ?_
      refine KAload_n C dX6_stopAt_46 rfl 0 rfl ?_
      refine KGetR (S := wI T f25) C ul_X6 rfl (by decide) 17 17 rfl (by decide) rfl u_fl_RX6_35 (hT.at0 80 7) (b := q 88) (hT.ptr 80 17 88) dX6_stopAt_47 (fun _ h => h) ?_
      refine KAload_n C dX6_stopAt_50 rfl 0 rfl ?_
      refine KGetR (S := wI T f25) C ul_X6 rfl (by decide) 19 19 rfl (by decide) rfl u_fl_RX6_41 (hT.at0 80 7) (b := q 90) (hT.ptr 80 19 90) dX6_stopAt_51 (fun _ h => h) ?_
      refine KIload_n C dX6_stopAt_54 rfl 2 rfl ?_
      refine KIald (S := wI T f25)  (v := (((rtS (dmM T q (zpd (sgM T q) b)) (slm T q (zpd (sgM T q) b)).length (y + 1)).1 : Nat) : Int)) C 9 (hT.at0 90 20) (hT.ln0 90 9) ⟨by omega, by omega⟩ (by omega) (hpa25 y hyl) dX6_stopAt_55 ?_
      have rb2 := hR.b (q 90) (y : Int) (v := (((rtS (dmM T q (zpd (sgM T q) b)) (slm T q (zpd (sgM T q) b)).length (y + 1)).1 : Nat) : Int)) (hpa25 y hyl)
      refine KIald (S := wI T f25)  (v := (((slm T q (zpd (sgM T q) b)).getD (rtS (dmM T q (zpd (sgM T q) b)) (slm T q (zpd (sgM T q) b)).length (y + 1)).1 0 : Nat) : Int)) C 9 (hT.at0 88 20) (hT.ln0 88 9) ⟨by omega, by omega⟩ (by omega) (hst25 _ hrb) dX6_stopAt_56 ?_
      have rb3 := hR.b (q 88) (((rtS (dmM T q (zpd (sgM T q) b)) (slm T q (zpd (sgM T q) b)).length (y + 1)).1 : Nat) : Int) (v := (((slm T q (zpd (sgM T q) b)).getD (rtS (dmM T q (zpd (sgM T q) b)) (slm T q (zpd (sgM T q) b)).length (y + 1)).1 0 : Nat) : Int)) (hst25 _ hrb)
      refine KIald (S := wI T f25)  (v := sI T (q 81) (((slm T q (zpd (sgM T q) b)).getD (rtS (dmM T q (zpd (sgM T q) b)) (slm T q (zpd (sgM T q) b)).length (y + 1)).1 0 : Nat) : Int)) C 20 (hT.at0 81 20) (hT.ln0 81 20) ⟨by omega, by omega⟩ (by omega) (hK25.at hT 81 _) dX6_stopAt_57 ?_
      have rb4 := hR.b (q 81) (((slm T q (zpd (sgM T q) b)).getD (rtS (dmM T q (zpd (sgM T q) b)) (slm T q (zpd (sgM T q) b)).length (y + 1)).1 0 : Nat) : Int) (v := sI T (q 81) (((slm T q (zpd (sgM T q) b)).getD (rtS (dmM T q (zpd (sgM T q) b)) (slm T q (zpd (sgM T q) b)).length (y + 1)).1 0 : Nat) : Int)) (hK25.at hT 81 _)
      refine KGoto (tgt := 66) C dX6_stopAt_58 (by decide) ?_
      refine KIret C rfl rfl (by
        first | exact hlift _ _ ⟨0, rout (zN (sgM T q)) (zG (sgM T q)) (zP (sgM T q)) (zpd (sgM T q) b) y, sgM T q, (by unfold oSa; rw [if_pos hba, if_pos (by omega), show k.toNat = y by omega]), rfl, MP.kept0 hT hCn h00 hK25⟩ | exact hlift _ _ ⟨1, 0, sgM T q, (by unfold oSa; rw [if_pos hba]; exact if_neg (by omega)), rfl, MP.thrk hT hCn hK25 1⟩) (by decide) (by decide) dX6_stopAt_66
    · refine KSt (st2 := [.int (iI 0)]) rfl ?_
      refine KIf_eq (tgt := 61) C dX6_stopAt_39 (by decide) ⟨by omega, by omega⟩ (fun _ => ?_) (fun h => absurd h (by decide))
      refine KAload_n C dX6_stopAt_61 rfl 0 rfl ?_
      refine KIconst C dX6_stopAt_62 ?_
      refine KCallV (As := [.int (iI 1)]) (b := q 80) (st := []) C (ct_X6_fails l g (wI T f25) q 1 hT (by omega)) u_ml_RX6_94 u_im_yX6_fails u_se_yX6_fails u_in_RX6 u_co_yX6_fails hd_yX6_fails (hT.at0 80 7) (by decide) rfl rfl ⟨Nat.le_of_ble_eq_true rfl, Nat.le_of_ble_eq_true rfl⟩ ⟨Nat.le_of_ble_eq_true rfl, Nat.le_of_ble_eq_true rfl⟩ (Nat.le_of_ble_eq_true rfl) dX6_stopAt_63 rfl (fun v63 u63 hp63 => ?_)
      obtain ⟨rfl, rfl⟩ := hp63
      refine KSt (st2 := [.int (iI 0)]) rfl ?_
      refine KRg (fun hR => ?_)
      refine KIret C rfl rfl (by
        first | exact hlift _ _ ⟨0, rout (zN (sgM T q)) (zG (sgM T q)) (zP (sgM T q)) (zpd (sgM T q) b) y, sgM T q, (by unfold oSa; rw [if_pos hba, if_pos (by omega), show k.toNat = y by omega]), rfl, MP.kept0 hT hCn h00 hK25⟩ | exact hlift _ _ ⟨1, 0, sgM T q, (by unfold oSa; rw [if_pos hba]; exact if_neg (by omega)), rfl, MP.thrk hT hCn hK25 1⟩) (by decide) (by decide) dX6_stopAt_66
  · refine KSt (st2 := [.int (iI 0)]) rfl ?_
    have hba : ¬ isBa (sgM T q) b := fun h9 => b7 ⟨h9.1, by have := h9.2; omega⟩
    refine KIf_ne (tgt := 19) C dX6_stopAt_10 (by decide) ⟨by omega, by omega⟩ (fun h => absurd h (by decide)) (fun _ => ?_)
    refine KAload_n C dX6_stopAt_13 rfl 0 rfl ?_
    refine KIconst C dX6_stopAt_14 ?_
    refine KCallV (As := [.int (iI 1)]) (b := q 80) (st := []) C (ct_X6_fails l g T q 1 hT (by omega)) u_ml_RX6_94 u_im_yX6_fails u_se_yX6_fails u_in_RX6 u_co_yX6_fails hd_yX6_fails (hT.at0 80 7) (by decide) rfl rfl ⟨Nat.le_of_ble_eq_true rfl, Nat.le_of_ble_eq_true rfl⟩ ⟨Nat.le_of_ble_eq_true rfl, Nat.le_of_ble_eq_true rfl⟩ (Nat.le_of_ble_eq_true rfl) dX6_stopAt_15 rfl (fun v15 u15 hp15 => ?_)
    obtain ⟨rfl, rfl⟩ := hp15
    refine KSt (st2 := [.int (iI 0)]) rfl ?_
    refine KRg (fun hR => ?_)
    refine KIret C rfl rfl (by
      exact hlift _ _ ⟨1, 0, sgM T q, (by unfold oSa; exact if_neg hba), rfl, MP.thr hT hCn 1⟩) (by decide) (by decide) dX6_stopAt_18
