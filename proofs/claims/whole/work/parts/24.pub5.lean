def P_X6_planWave (S : Sto) (q : Nat → Nat) (t : Int) : Option Value → Sto → Prop := fun v u => ∃ c r z', oPw (sgM S q) t = (c, r, z') ∧ v = some (.int (iI r)) ∧ MP S q u c z'
set_option maxRecDepth 100000 in
set_option maxHeartbeats 4000000 in
theorem ct_X6_planWave (l : Launch) (g : GG) (S : Sto) (q : Nat → Nat) (t : Int) (hT : Top S q) (hW : Wf (sgM S q)) (hCn : Cn S q) (hit : inR t) : MetS l g yX6_planWave cX6_planWave 4 (some FieldType.int) 7 0 0 [.ref (q 80), .int (iI t)] S (P_X6_planWave S q t) := by
  refine MetS.of (own := RX6) (lv := [(0, .ref (q 80)), (1, .int (iI t))]) (by decide) rfl (Nat.le_of_ble_eq_true rfl) rfl ?_
  intro pX eX sX mX argsX belowX methX cX C hin
  refine KRg (fun hR => ?_)
  obtain ⟨t1, t2⟩ := id hit
  refine KAload_n C dX6_planWave_0 rfl 0 rfl ?_
  refine KIconst C dX6_planWave_1 ?_
  obtain ⟨T, hTT, hT9, hW, hCn, h00, hz, hM⟩ := MP.start hT hW hCn
  refine KPutI (ty := .int) (v := 0) C ul_X6 rfl (by decide) 0 0 rfl (by decide) rfl u_fl_RX6_59 tyX6 tyX6_ok nmX6 (hT.at0 80 7) ⟨by omega, by omega⟩ (by decide +kernel) rfl rfl rfl dX6_planWave_2 (fun _ h => h) ?_
  refine KSto (S2 := T) hTT.symm ?_
  have hT := hT9
  have hlift : ∀ v u, P_X6_planWave T q t v u → P_X6_planWave S q t v u := fun v u ⟨c, r, z', h1, h2, h3⟩ => ⟨c, r, z', hz ▸ h1, h2, hM.trans h3⟩
  refine KRg (fun hR => ?_)
  obtain ⟨hc6, hc13⟩ := id hCn
  have hCm : CfM T q := hW.cf
  obtain ⟨hA1, hA2, hN1, hN2, hG1, hG2⟩ := id hCm
  obtain ⟨ho40, hbo⟩ := hW.2.1
  have ezA : zA (sgM T q) = sI T (q 80) 1 := rfl
  have ezN : zN (sgM T q) = sI T (q 80) 2 := rfl
  refine KIload_n C dX6_planWave_5 rfl 1 rfl ?_
  refine KIconst C dX6_planWave_6 ?_
  refine KSipush C dX6_planWave_7 (by decide) ?_
  refine KCallS (As := [.int (iI t), .int (iI 0), .int (iI 999)]) (st := []) C (ct_X6_in l g T t 0 999 (⟨by omega, by omega⟩) (⟨by omega, by omega⟩) (⟨by omega, by omega⟩)) u_ml_RX6_62 u_st_yX6_in u_in_RX6 u_co_yX6_in hd_yX6_in ⟨Nat.le_of_ble_eq_true rfl, Nat.le_of_ble_eq_true rfl⟩ ⟨Nat.le_of_ble_eq_true rfl, Nat.le_of_ble_eq_true rfl⟩ (Nat.le_of_ble_eq_true rfl) dX6_planWave_10 rfl (fun v10 u10 hp10 => ?_)
  obtain ⟨⟨b10, rfl⟩ | ⟨b10, rfl⟩, rfl⟩ := hp10
  · refine KSt (st2 := [.int (iI 1)]) rfl ?_
    refine KIf_ne (tgt := 22) C dX6_planWave_13 (by decide) ⟨by omega, by omega⟩ (fun _ => ?_) (fun h => absurd h (by decide))
    refine KIconst C dX6_planWave_22 ?_
    refine KIstore_n (lv' := [(2, .int (iI 0)), (0, .ref (q 80)), (1, .int (iI t))]) C dX6_planWave_23 rfl (by decide) rfl ?_
    refine KIconst C dX6_planWave_24 ?_
    refine KIstore_n (lv' := [(3, .int (iI 0)), (2, .int (iI 0)), (0, .ref (q 80)), (1, .int (iI t))]) C dX6_planWave_25 rfl (by decide) rfl ?_
    refine KLv (lv' := [(0, .ref (q 80)), (1, .int (iI t)), (2, .int (iI 0)), (3, .int (iI 0))]) [2, 3, 1, 0] rfl ?_
    have loop26 : ∀ (nX : Nat) (n : Nat), zo (sgM T q) - n < nX → (n ≤ zo (sgM T q)) → Wk pX l eX (rmK 7 0 0) sX mX argsX belowX methX cX (MQ belowX (QcG g (P_X6_planWave S q t)) argsX sX 0 0 (ge (gB g))) g 4 0 0 26 [(0, .ref (q 80)), (1, .int (iI t)), (2, .int (iI (tkN (sgM T q) t n))), (3, .int (iI (n : Int)))] [] T := by
      intro nX
      induction nX with
      | zero => intro n hm; exact absurd hm (Nat.not_lt_zero _)
      | succ nX ih26 =>
        intro n hm26 hn
        refine KRg (fun hR => ?_)
        have htb := tkN_b (sgM T q) t n
        have ez3 : zst (sgM T q) (n : Int) = sI T (q 83) (n : Int) := rfl
        have ez5 : zmn (sgM T q) (n : Int) = sI T (q 85) (n : Int) := rfl
        have ez2 : zdu (sgM T q) (n : Int) = sI T (q 82) (n : Int) := rfl
        refine KIload_n C dX6_planWave_26 rfl 3 rfl ?_
        refine KAload_n C dX6_planWave_27 rfl 0 rfl ?_
        refine KGetI (S := T) C ul_X6 rfl (by decide) 6 6 rfl (by decide) rfl u_fl_RX6_66 (hT.at0 80 7) (v := ((zo (sgM T q) : Nat) : Int)) hc6 dX6_planWave_28 (fun _ h => h) ?_
        have rb1 := hR.b (q 80) 6 (v := ((zo (sgM T q) : Nat) : Int)) hc6
        refine KIcmp_ge (tgt := 76) C dX6_planWave_31 (by decide) ⟨by omega, by omega⟩ ⟨by omega, by omega⟩ (fun c31 => ?_) (fun c31 => ?_)
        · have hnn : zo (sgM T q) = n := by omega
          refine KAload_n C dX6_planWave_76 rfl 0 rfl ?_
          refine KGetI (S := T) C ul_X6 rfl (by decide) 13 13 rfl (by decide) rfl u_fl_RX6_69 (hT.at0 80 7) (v := ((zb (sgM T q) : Nat) : Int)) hc13 dX6_planWave_77 (fun _ h => h) ?_
          have rb2 := hR.b (q 80) 13 (v := ((zb (sgM T q) : Nat) : Int)) hc13
          refine KIf_gt (tgt := 87) C dX6_planWave_80 (by decide) ⟨by omega, by omega⟩ (fun c80 => ?_) (fun c80 => ?_)
          · refine KAload_n C dX6_planWave_87 rfl 0 rfl ?_
            refine KIconst C dX6_planWave_88 ?_
            refine KCallV (As := [.int (iI 2)]) (b := q 80) (st := []) C (ct_X6_fails l g T q 2 hT (by omega)) u_ml_RX6_94 u_im_yX6_fails u_se_yX6_fails u_in_RX6 u_co_yX6_fails hd_yX6_fails (hT.at0 80 7) (by decide) rfl rfl ⟨Nat.le_of_ble_eq_true rfl, Nat.le_of_ble_eq_true rfl⟩ ⟨Nat.le_of_ble_eq_true rfl, Nat.le_of_ble_eq_true rfl⟩ (Nat.le_of_ble_eq_true rfl) dX6_planWave_89 rfl (fun v89 u89 hp89 => ?_)
            obtain ⟨rfl, rfl⟩ := hp89
            refine KSt (st2 := [.int (iI 0)]) rfl ?_
            refine KRg (fun hR => ?_)
            refine KIret C rfl rfl (by
              exact hlift _ _ ⟨2, 0, sgM T q, (by unfold oPw; rw [if_neg (by omega)]; exact if_pos (by rw [hnn]; omega)), rfl, MP.thr hT hCn 2⟩) (by decide) (by decide) dX6_planWave_92
          · refine KIload_n C dX6_planWave_83 rfl 2 rfl ?_
            refine KIf_ne (tgt := 93) C dX6_planWave_84 (by decide) ⟨by omega, by omega⟩ (fun c84 => ?_) (fun c84 => ?_)
            · refine KIconst C dX6_planWave_93 ?_
              refine KIstore_n (lv' := [(3, .int (iI 0)), (0, .ref (q 80)), (1, .int (iI t)), (2, .int (iI (tkN (sgM T q) t n)))]) C dX6_planWave_94 rfl (by decide) rfl ?_
              refine KSto (S2 := wI T (tkF T q t 0)) (by unfold tkF; show T = wI T (up2 (row1 (row1 (sI T) (q 83) (sI T (q 83))) (q 84) (sI T (q 84))) (q 80) 13 0); rw [row1_self, row1_self, up2_self _ _ _ (hc13.trans (show (((zb (sgM T q) : Nat) : Int) = 0) by omega))]) ?_
              refine KLv (lv' := [(0, .ref (q 80)), (1, .int (iI t)), (3, .int (iI 0))]) [1, 2, 0] rfl ?_
              have loop95 : ∀ (nX : Nat) (n : Nat), zo (sgM T q) - n < nX → (n ≤ zo (sgM T q)) → Wk pX l eX (rmK 7 0 0) sX mX argsX belowX methX cX (MQ belowX (QcG g (P_X6_planWave S q t)) argsX sX 0 0 (ge (gB g))) g 4 0 0 95 [(0, .ref (q 80)), (1, .int (iI t)), (3, .int (iI (n : Int)))] [] (wI T (tkF T q t n)) := by
                intro nX
                induction nX with
                | zero => intro n hm; exact absurd hm (Nat.not_lt_zero _)
                | succ nX ih95 =>
                  intro n hm95 hn
                  refine KRg (fun hR => ?_)
                  have ez3 : zst (sgM T q) (n : Int) = sI T (q 83) (n : Int) := rfl
                  have ez5 : zmn (sgM T q) (n : Int) = sI T (q 85) (n : Int) := rfl
                  have ez2 : zdu (sgM T q) (n : Int) = sI T (q 82) (n : Int) := rfl
                  have htn := tkW_n (sgM T q) t n
                  have htb := tkN_b (sgM T q) t n
                  refine KIload_n C dX6_planWave_95 rfl 2 rfl ?_
                  refine KAload_n C dX6_planWave_96 rfl 0 rfl ?_
                  refine KGetI (S := wI T (tkF T q t n)) C ul_X6 rfl (by decide) 6 6 rfl (by decide) rfl u_fl_RX6_66 (hT.at0 80 7) (v := ((zo (sgM T q) : Nat) : Int)) ((tkF_at0 hT t n 6).trans hc6) dX6_planWave_97 (fun _ h => h) ?_
                  have rb3 := hR.b (q 80) 6 (v := ((zo (sgM T q) : Nat) : Int)) ((tkF_at0 hT t n 6).trans hc6)
                  refine KIcmp_ge (tgt := 164) C dX6_planWave_100 (by decide) ⟨by omega, by omega⟩ ⟨by omega, by omega⟩ (fun c100 => ?_) (fun c100 => ?_)
                  · have hn9 : n = zo (sgM T q) := by omega
                    subst hn9
                    have hMw : MP T q (wI T (tkF T q t (zo (sgM T q)))) 0 (zwv (sgM T q) t) := MP.rows0 (fun a ha => ((up2_row _ _ _ (fun e9 => ha ⟨80, by omega, by omega, e9⟩)).trans ((funext fun _ => row1_ne _ _ _ (fun e9 => ha ⟨84, by omega, by omega, e9⟩)).trans (funext fun _ => row1_ne _ _ _ (fun e9 => ha ⟨83, by omega, by omega, e9⟩))))) ((up2_nk _ _ _ _ (by decide)).trans ((row1_ne _ _ _ (hT.ne 80 84)).trans ((row1_ne _ _ _ (hT.ne 80 83)).trans h00))) ⟨((up2_nk _ _ _ _ (by decide)).trans ((row1_ne _ _ _ (hT.ne 80 84)).trans (row1_ne _ _ _ (hT.ne 80 83)))), ((up2_nk _ _ _ _ (by decide)).trans ((row1_ne _ _ _ (hT.ne 80 84)).trans (row1_ne _ _ _ (hT.ne 80 83)))), ((up2_nk _ _ _ _ (by decide)).trans ((row1_ne _ _ _ (hT.ne 80 84)).trans (row1_ne _ _ _ (hT.ne 80 83)))), ((up2_nk _ _ _ _ (by decide)).trans ((row1_ne _ _ _ (hT.ne 80 84)).trans (row1_ne _ _ _ (hT.ne 80 83))))⟩ ⟨((up2_nk _ _ _ _ (by decide)).trans ((row1_ne _ _ _ (hT.ne 80 84)).trans ((row1_ne _ _ _ (hT.ne 80 83)).trans hc6))), (up2_same _ _ _ _), ((up2_nk _ _ _ _ (by decide)).trans ((row1_ne _ _ _ (hT.ne 80 84)).trans (row1_ne _ _ _ (hT.ne 80 83)))), rfl⟩ ⟨((up2_row _ _ _ (hT.ne 81 80)).trans ((funext fun _ => row1_ne _ _ _ (hT.ne 81 84)).trans (funext fun _ => row1_ne _ _ _ (hT.ne 81 83)))), ((up2_row _ _ _ (hT.ne 82 80)).trans ((funext fun _ => row1_ne _ _ _ (hT.ne 82 84)).trans (funext fun _ => row1_ne _ _ _ (hT.ne 82 83)))), ((up2_row _ _ _ (hT.ne 83 80)).trans ((funext fun _ => row1_ne _ _ _ (hT.ne 83 84)).trans (funext fun _ => row1_same _ _ _ _))), ((up2_row _ _ _ (hT.ne 84 80)).trans (funext fun _ => row1_same _ _ _ _)), ((up2_row _ _ _ (hT.ne 85 80)).trans ((funext fun _ => row1_ne _ _ _ (hT.ne 85 84)).trans (funext fun _ => row1_ne _ _ _ (hT.ne 85 83)))), ((up2_row _ _ _ (hT.ne 86 80)).trans ((funext fun _ => row1_ne _ _ _ (hT.ne 86 84)).trans (funext fun _ => row1_ne _ _ _ (hT.ne 86 83)))), ((up2_row _ _ _ (hT.ne 87 80)).trans ((funext fun _ => row1_ne _ _ _ (hT.ne 87 84)).trans (funext fun _ => row1_ne _ _ _ (hT.ne 87 83))))⟩
                    have hzw := hMw.2.2.2.2.2.2.2.1
                    have hWw := hW.wv t (by omega)
                    have hT0 := hT
                    refine KIconst C dX6_planWave_164 ?_
                    refine KIstore_n (lv' := [(3, .int (iI 1)), (0, .ref (q 80)), (1, .int (iI t))]) C dX6_planWave_165 rfl (by decide) rfl ?_
                    refine KLv (lv' := [(0, .ref (q 80)), (1, .int (iI t)), (3, .int (iI 1))]) [1, 2, 0] rfl ?_
                    have loop166 : ∀ (nX : Nat) (V : Sto) (gI : Int), zb (sgM V q) + gI.toNat < nX → (gI = 1 ∨ gI = 0) → (gI = 0 → ¬ 0 < (zj (sgM V q)).1) → (MP T q V 0 (sgM V q)) → (Wf (sgM V q)) → (zjn (sgM V q) = zjn (zwv (sgM T q) t)) → Wk pX l eX (rmK 7 0 0) sX mX argsX belowX methX cX (MQ belowX (QcG g (P_X6_planWave S q t)) argsX sX 0 0 (ge (gB g))) g 4 0 0 166 [(0, .ref (q 80)), (1, .int (iI t)), (3, .int (iI gI))] [] V := by
                      intro nX
                      induction nX with
                      | zero => intro V gI hm; exact absurd hm (Nat.not_lt_zero _)
                      | succ nX ih166 =>
                        intro V gI hm166 hgI hg0 hMv hWv hjv
                        refine KRg (fun hR => ?_)
                        have hT := hMv.top hT0
                        have hCn := hMv.2.2.2.2.2.2.2.2
                        have h0v := hMv.2.2.2.2.2.2.1
                        have hb40 : zb (sgM V q) ≤ 40 := Nat.le_trans hWv.2.1.2 hWv.2.1.1
                        have hc6v := hCn.1
                        refine KIload_n C dX6_planWave_166 rfl 2 rfl ?_
                        refine KIf_eq (tgt := 178) C dX6_planWave_167 (by decide) ⟨by omega, by omega⟩ (fun c167 => ?_) (fun c167 => ?_)
                        · refine KAload_n C dX6_planWave_178 rfl 0 rfl ?_
                          refine KGetI (S := V) C ul_X6 rfl (by decide) 13 13 rfl (by decide) rfl u_fl_RX6_69 (hT.at0 80 7) (v := ((zb (sgM V q) : Nat) : Int)) hCn.2 dX6_planWave_179 (fun _ h => h) ?_
                          have rb4 := hR.b (q 80) 13 (v := ((zb (sgM V q) : Nat) : Int)) hCn.2
                          refine KIret C rfl rfl (by
                            have hze := (zjn_end (hg0 c167)).symm.trans hjv
                            exact hlift _ _ ⟨0, ((zb (zjn (zwv (sgM T q) t)) : Nat) : Int), zjn (zwv (sgM T q) t), (by unfold oPw; rw [if_neg (by omega)]; exact if_neg (by rw [hnn]; omega)), by rw [← hze], by rw [← hze]; exact hMv⟩) (by decide) (by decide) dX6_planWave_182
                        · refine KAload_n C dX6_planWave_170 rfl 0 rfl ?_
                          refine KCallV (As := []) (b := q 80) (st := []) C (ct_X6_joins l g V q hT hWv hCn) u_ml_RX6_126 u_im_yX6_joins u_se_yX6_joins u_in_RX6 u_co_yX6_joins hd_yX6_joins (hT.at0 80 7) (by decide) rfl rfl ⟨Nat.le_of_ble_eq_true rfl, Nat.le_of_ble_eq_true rfl⟩ ⟨Nat.le_of_ble_eq_true rfl, Nat.le_of_ble_eq_true rfl⟩ (Nat.le_of_ble_eq_true rfl) dX6_planWave_171 rfl (fun v171 u171 hp171 => ?_)
                          obtain ⟨hj171, rfl, hm171⟩ | ⟨hj171, rfl, hm171⟩ := hp171
                          · refine KSt (st2 := [.int (iI 1)]) rfl ?_
                            have hzx := hm171.2.2.2.2.2.2.2.1
                            have hpos := zj_pos hj171
                            refine KIstore_n (lv' := [(3, .int (iI 1)), (0, .ref (q 80)), (1, .int (iI t))]) C dX6_planWave_174 rfl (by decide) rfl ?_
                            refine KGoto (tgt := 166) C dX6_planWave_175 (by decide) ?_
                            refine KLv (lv' := [(0, .ref (q 80)), (1, .int (iI t)), (3, .int (iI 1))]) [1, 2, 0] rfl ?_
                            exact ih166 u171 1 (by first | (rw [hzx]; show zb (sgM V q) - 1 + (1 : Int).toNat < _; have e1 : (1 : Int).toNat = 1 := rfl; have e2 : gI.toNat = 1 := (by omega); omega) | (rw [hzx]; have e1 : (0 : Int).toNat = 0 := rfl; have e2 : gI.toNat = 1 := (by omega); omega)) (by first | exact Or.inl rfl | exact Or.inr rfl) (by first | exact fun h9 => absurd h9 (by decide) | exact fun _ => by rw [hzx]; exact hj171) (by rw [hzx]; exact hMv.trans (h0v ▸ hm171)) (by rw [hzx]; first | exact hWv.jo hj171 | exact hWv) (by rw [hzx]; first | exact (zjn_step hj171).symm.trans hjv | exact hjv)
                          · refine KSt (st2 := [.int (iI 0)]) rfl ?_
                            have hzx := hm171.2.2.2.2.2.2.2.1
                            refine KIstore_n (lv' := [(3, .int (iI 0)), (0, .ref (q 80)), (1, .int (iI t))]) C dX6_planWave_174 rfl (by decide) rfl ?_
                            refine KGoto (tgt := 166) C dX6_planWave_175 (by decide) ?_
                            refine KLv (lv' := [(0, .ref (q 80)), (1, .int (iI t)), (3, .int (iI 0))]) [1, 2, 0] rfl ?_
                            exact ih166 u171 0 (by first | (rw [hzx]; show zb (sgM V q) - 1 + (1 : Int).toNat < _; have e1 : (1 : Int).toNat = 1 := rfl; have e2 : gI.toNat = 1 := (by omega); omega) | (rw [hzx]; have e1 : (0 : Int).toNat = 0 := rfl; have e2 : gI.toNat = 1 := (by omega); omega)) (by first | exact Or.inl rfl | exact Or.inr rfl) (by first | exact fun h9 => absurd h9 (by decide) | exact fun _ => by rw [hzx]; exact hj171) (by rw [hzx]; exact hMv.trans (h0v ▸ hm171)) (by rw [hzx]; first | exact hWv.jo hj171 | exact hWv) (by rw [hzx]; first | exact (zjn_step hj171).symm.trans hjv | exact hjv)
                    exact loop166 _ (wI T (tkF T q t (zo (sgM T q)))) 1 (Nat.lt_succ_self _) (Or.inl rfl) (fun h9 => absurd h9 (by decide)) (by rw [hzw]; exact hMw) (by rw [hzw]; exact hWw) (by rw [hzw])
                  · refine KAload_n C dX6_planWave_103 rfl 0 rfl ?_
                    refine KGetR (S := wI T (tkF T q t n)) C ul_X6 rfl (by decide) 8 8 rfl (by decide) rfl u_fl_RX6_20 (hT.at0 80 7) (b := q 83) (hT.ptr 80 8 83) dX6_planWave_104 (fun _ h => h) ?_
                    refine KIload_n C dX6_planWave_107 rfl 2 rfl ?_
                    refine KIald (S := wI T (tkF T q t n))  (v := sI T (q 83) (n : Int)) C 40 (hT.at0 83 20) (hT.ln0 83 40) ⟨by omega, by omega⟩ (by omega) (tkF_83 hT t n) dX6_planWave_108 ?_
                    have rb5 := hR.b (q 83) (n : Int) (v := sI T (q 83) (n : Int)) (tkF_83 hT t n)
                    refine KIf_ne (tgt := 158) C dX6_planWave_109 (by decide) ⟨by omega, by omega⟩ (fun c109 => ?_) (fun c109 => ?_)
                    · have hsk : ¬ isT (sgM T q) t n := fun h9 => by have i1 : zst (sgM T q) (n : Int) = 0 := h9.1; have i2 : 0 < zmn (sgM T q) (n : Int) := h9.2.1; have i3 : zdu (sgM T q) (n : Int) ≤ t := h9.2.2; omega
                      refine KSto (S2 := wI T (tkF T q t (n + 1))) (congrArg (wI T) (tkF_skip hsk)) ?_
                      refine KIinc (v := ((n + 1 : Nat) : Int)) (lv' := [(3, .int (iI ((n + 1 : Nat) : Int))), (0, .ref (q 80)), (1, .int (iI t))]) C dX6_planWave_158 2 rfl (by omega) (by decide) rfl ?_
                      refine KGoto (tgt := 95) C dX6_planWave_161 (by decide) ?_
                      refine KLv (lv' := [(0, .ref (q 80)), (1, .int (iI t)), (3, .int (iI ((n + 1 : Nat) : Int)))]) [1, 2, 0] rfl ?_
                      exact ih95 (n + 1) (by omega) (by omega)
                    · refine KAload_n C dX6_planWave_112 rfl 0 rfl ?_
                      refine KGetR (S := wI T (tkF T q t n)) C ul_X6 rfl (by decide) 10 10 rfl (by decide) rfl u_fl_RX6_26 (hT.at0 80 7) (b := q 85) (hT.ptr 80 10 85) dX6_planWave_113 (fun _ h => h) ?_
                      refine KIload_n C dX6_planWave_116 rfl 2 rfl ?_
                      refine KIald (S := wI T (tkF T q t n))  (v := sI T (q 85) (n : Int)) C 40 (hT.at0 85 20) (hT.ln0 85 40) ⟨by omega, by omega⟩ (by omega) (tkF_at hT t n 85 _) dX6_planWave_117 ?_
                      have rb6 := hR.b (q 85) (n : Int) (v := sI T (q 85) (n : Int)) (tkF_at hT t n 85 _)
                      refine KIf_le (tgt := 158) C dX6_planWave_118 (by decide) ⟨by omega, by omega⟩ (fun c118 => ?_) (fun c118 => ?_)
                      · have hsk : ¬ isT (sgM T q) t n := fun h9 => by have i1 : zst (sgM T q) (n : Int) = 0 := h9.1; have i2 : 0 < zmn (sgM T q) (n : Int) := h9.2.1; have i3 : zdu (sgM T q) (n : Int) ≤ t := h9.2.2; omega
                        refine KSto (S2 := wI T (tkF T q t (n + 1))) (congrArg (wI T) (tkF_skip hsk)) ?_
                        refine KIinc (v := ((n + 1 : Nat) : Int)) (lv' := [(3, .int (iI ((n + 1 : Nat) : Int))), (0, .ref (q 80)), (1, .int (iI t))]) C dX6_planWave_158 2 rfl (by omega) (by decide) rfl ?_
                        refine KGoto (tgt := 95) C dX6_planWave_161 (by decide) ?_
                        refine KLv (lv' := [(0, .ref (q 80)), (1, .int (iI t)), (3, .int (iI ((n + 1 : Nat) : Int)))]) [1, 2, 0] rfl ?_
                        exact ih95 (n + 1) (by omega) (by omega)
                      · refine KAload_n C dX6_planWave_121 rfl 0 rfl ?_
                        refine KGetR (S := wI T (tkF T q t n)) C ul_X6 rfl (by decide) 7 7 rfl (by decide) rfl u_fl_RX6_17 (hT.at0 80 7) (b := q 82) (hT.ptr 80 7 82) dX6_planWave_122 (fun _ h => h) ?_
                        refine KIload_n C dX6_planWave_125 rfl 2 rfl ?_
                        refine KIald (S := wI T (tkF T q t n))  (v := sI T (q 82) (n : Int)) C 40 (hT.at0 82 20) (hT.ln0 82 40) ⟨by omega, by omega⟩ (by omega) (tkF_at hT t n 82 _) dX6_planWave_126 ?_
                        have rb7 := hR.b (q 82) (n : Int) (v := sI T (q 82) (n : Int)) (tkF_at hT t n 82 _)
                        refine KIload_n C dX6_planWave_127 rfl 1 rfl ?_
                        refine KIcmp_gt (tgt := 158) C dX6_planWave_128 (by decide) ⟨by omega, by omega⟩ ⟨by omega, by omega⟩ (fun c128 => ?_) (fun c128 => ?_)
                        · have hsk : ¬ isT (sgM T q) t n := fun h9 => by have i1 : zst (sgM T q) (n : Int) = 0 := h9.1; have i2 : 0 < zmn (sgM T q) (n : Int) := h9.2.1; have i3 : zdu (sgM T q) (n : Int) ≤ t := h9.2.2; omega
                          refine KSto (S2 := wI T (tkF T q t (n + 1))) (congrArg (wI T) (tkF_skip hsk)) ?_
                          refine KIinc (v := ((n + 1 : Nat) : Int)) (lv' := [(3, .int (iI ((n + 1 : Nat) : Int))), (0, .ref (q 80)), (1, .int (iI t))]) C dX6_planWave_158 2 rfl (by omega) (by decide) rfl ?_
                          refine KGoto (tgt := 95) C dX6_planWave_161 (by decide) ?_
                          refine KLv (lv' := [(0, .ref (q 80)), (1, .int (iI t)), (3, .int (iI ((n + 1 : Nat) : Int)))]) [1, 2, 0] rfl ?_
                          exact ih95 (n + 1) (by omega) (by omega)
                        · refine KAload_n C dX6_planWave_131 rfl 0 rfl ?_
                          refine KGetR (S := wI T (tkF T q t n)) C ul_X6 rfl (by decide) 8 8 rfl (by decide) rfl u_fl_RX6_20 (hT.at0 80 7) (b := q 83) (hT.ptr 80 8 83) dX6_planWave_132 (fun _ h => h) ?_
                          refine KIload_n C dX6_planWave_135 rfl 2 rfl ?_
                          refine KIconst C dX6_planWave_136 ?_
                          refine KIast (S := wI T (tkF T q t n)) C 40 (hT.at0 83 20) (hT.ln0 83 40) ⟨by omega, by omega⟩ (by omega) ⟨by omega, by omega⟩ dX6_planWave_137 ?_
                          refine KAload_n C dX6_planWave_138 rfl 0 rfl ?_
                          refine KGetR (S := uI (wI T (tkF T q t n)) (q 83) (n : Int) 1) C ul_X6 rfl (by decide) 9 9 rfl (by decide) rfl u_fl_RX6_23 (hT.at0 80 7) (b := q 84) (hT.ptr 80 9 84) dX6_planWave_139 (fun _ h => h) ?_
                          refine KIload_n C dX6_planWave_142 rfl 2 rfl ?_
                          refine KAload_n C dX6_planWave_143 rfl 0 rfl ?_
                          refine KGetI (S := uI (wI T (tkF T q t n)) (q 83) (n : Int) 1) C ul_X6 rfl (by decide) 13 13 rfl (by decide) rfl u_fl_RX6_69 (hT.at0 80 7) (v := ((tkW (sgM T q) t n).1 : Int)) ((up2_ne _ _ _ _ (hT.ne 80 83)).trans (up2_same _ _ _ _)) dX6_planWave_144 (fun _ h => h) ?_
                          refine KIast (S := uI (wI T (tkF T q t n)) (q 83) (n : Int) 1) C 40 (hT.at0 84 20) (hT.ln0 84 40) ⟨by omega, by omega⟩ (by omega) ⟨by omega, by omega⟩ dX6_planWave_147 ?_
                          refine KAload_n C dX6_planWave_148 rfl 0 rfl ?_
                          refine KDup C dX6_planWave_149 rfl ?_
                          refine KGetI (S := uI (uI (wI T (tkF T q t n)) (q 83) (n : Int) 1) (q 84) (n : Int) ((tkW (sgM T q) t n).1 : Int)) C ul_X6 rfl (by decide) 13 13 rfl (by decide) rfl u_fl_RX6_69 (hT.at0 80 7) (v := ((tkW (sgM T q) t n).1 : Int)) ((up2_ne _ _ _ _ (hT.ne 80 84)).trans ((up2_ne _ _ _ _ (hT.ne 80 83)).trans (up2_same _ _ _ _))) dX6_planWave_150 (fun _ h => h) ?_
                          refine KIconst C dX6_planWave_153 ?_
                          refine KIadd C dX6_planWave_154 ?_
                          refine KPutI (S := uI (uI (wI T (tkF T q t n)) (q 83) (n : Int) 1) (q 84) (n : Int) ((tkW (sgM T q) t n).1 : Int)) (ty := .int) (v := ((tkW (sgM T q) t n).1 : Int) + 1) C ul_X6 rfl (by decide) 13 13 rfl (by decide) rfl u_fl_RX6_69 tyX6 tyX6_ok nmX6 (hT.at0 80 7) ⟨by omega, by omega⟩ (by decide +kernel) rfl rfl rfl dX6_planWave_155 (fun _ h => h) ?_
                          refine KSto (S2 := wI T (tkF T q t (n + 1))) (congrArg (wI T) (tkF_step hT ⟨by omega, by omega, by omega⟩)) ?_
                          refine KIinc (v := ((n + 1 : Nat) : Int)) (lv' := [(3, .int (iI ((n + 1 : Nat) : Int))), (0, .ref (q 80)), (1, .int (iI t))]) C dX6_planWave_158 2 rfl (by omega) (by decide) rfl ?_
                          refine KGoto (tgt := 95) C dX6_planWave_161 (by decide) ?_
                          refine KLv (lv' := [(0, .ref (q 80)), (1, .int (iI t)), (3, .int (iI ((n + 1 : Nat) : Int)))]) [1, 2, 0] rfl ?_
                          exact ih95 (n + 1) (by omega) (by omega)
              exact loop95 _ 0 (Nat.lt_succ_self _) (by omega)
            · refine KAload_n C dX6_planWave_87 rfl 0 rfl ?_
              refine KIconst C dX6_planWave_88 ?_
              refine KCallV (As := [.int (iI 2)]) (b := q 80) (st := []) C (ct_X6_fails l g T q 2 hT (by omega)) u_ml_RX6_94 u_im_yX6_fails u_se_yX6_fails u_in_RX6 u_co_yX6_fails hd_yX6_fails (hT.at0 80 7) (by decide) rfl rfl ⟨Nat.le_of_ble_eq_true rfl, Nat.le_of_ble_eq_true rfl⟩ ⟨Nat.le_of_ble_eq_true rfl, Nat.le_of_ble_eq_true rfl⟩ (Nat.le_of_ble_eq_true rfl) dX6_planWave_89 rfl (fun v89 u89 hp89 => ?_)
              obtain ⟨rfl, rfl⟩ := hp89
              refine KSt (st2 := [.int (iI 0)]) rfl ?_
              refine KRg (fun hR => ?_)
              refine KIret C rfl rfl (by
                exact hlift _ _ ⟨2, 0, sgM T q, (by unfold oPw; rw [if_neg (by omega)]; exact if_pos (by rw [hnn]; omega)), rfl, MP.thr hT hCn 2⟩) (by decide) (by decide) dX6_planWave_92
        · refine KIload_n C dX6_planWave_34 rfl 2 rfl ?_
          refine KAload_n C dX6_planWave_35 rfl 0 rfl ?_
          refine KGetR (S := T) C ul_X6 rfl (by decide) 8 8 rfl (by decide) rfl u_fl_RX6_20 (hT.at0 80 7) (b := q 83) (hT.ptr 80 8 83) dX6_planWave_36 (fun _ h => h) ?_
          refine KIload_n C dX6_planWave_39 rfl 3 rfl ?_
          refine KIald (S := T)  (v := sI T (q 83) (n : Int)) C 40 (hT.at0 83 20) (hT.ln0 83 40) ⟨by omega, by omega⟩ (by omega) rfl dX6_planWave_40 ?_
          have rb8 := hR.b (q 83) (n : Int) (v := sI T (q 83) (n : Int)) rfl
          refine KIf_ne (tgt := 67) C dX6_planWave_41 (by decide) ⟨by omega, by omega⟩ (fun c41 => ?_) (fun c41 => ?_)
          · refine KIconst C dX6_planWave_67 ?_
            refine KIadd C dX6_planWave_68 ?_
            refine KTop (congrArg iI (show (tkN (sgM T q) t n) + 0 = tkN (sgM T q) t (n + 1) from (by first | exact tkN_t ⟨by omega, by omega, by omega⟩ | exact tkN_f (by omega)))) ?_
            refine KIstore_n (lv' := [(2, .int (iI (tkN (sgM T q) t (n + 1)))), (0, .ref (q 80)), (1, .int (iI t)), (3, .int (iI (n : Int)))]) C dX6_planWave_69 rfl (by decide) rfl ?_
            refine KIinc (v := ((n + 1 : Nat) : Int)) (lv' := [(3, .int (iI ((n + 1 : Nat) : Int))), (2, .int (iI (tkN (sgM T q) t (n + 1)))), (0, .ref (q 80)), (1, .int (iI t))]) C dX6_planWave_70 3 rfl (by omega) (by decide) rfl ?_
            refine KGoto (tgt := 26) C dX6_planWave_73 (by decide) ?_
            refine KLv (lv' := [(0, .ref (q 80)), (1, .int (iI t)), (2, .int (iI (tkN (sgM T q) t (n + 1)))), (3, .int (iI ((n + 1 : Nat) : Int)))]) [2, 3, 1, 0] rfl ?_
            exact ih26 (n + 1) (by omega) (by omega)
          · refine KAload_n C dX6_planWave_44 rfl 0 rfl ?_
            refine KGetR (S := T) C ul_X6 rfl (by decide) 10 10 rfl (by decide) rfl u_fl_RX6_26 (hT.at0 80 7) (b := q 85) (hT.ptr 80 10 85) dX6_planWave_45 (fun _ h => h) ?_
            refine KIload_n C dX6_planWave_48 rfl 3 rfl ?_
            refine KIald (S := T)  (v := sI T (q 85) (n : Int)) C 40 (hT.at0 85 20) (hT.ln0 85 40) ⟨by omega, by omega⟩ (by omega) rfl dX6_planWave_49 ?_
            have rb9 := hR.b (q 85) (n : Int) (v := sI T (q 85) (n : Int)) rfl
            refine KIf_le (tgt := 67) C dX6_planWave_50 (by decide) ⟨by omega, by omega⟩ (fun c50 => ?_) (fun c50 => ?_)
            · refine KIconst C dX6_planWave_67 ?_
              refine KIadd C dX6_planWave_68 ?_
              refine KTop (congrArg iI (show (tkN (sgM T q) t n) + 0 = tkN (sgM T q) t (n + 1) from (by first | exact tkN_t ⟨by omega, by omega, by omega⟩ | exact tkN_f (by omega)))) ?_
              refine KIstore_n (lv' := [(2, .int (iI (tkN (sgM T q) t (n + 1)))), (0, .ref (q 80)), (1, .int (iI t)), (3, .int (iI (n : Int)))]) C dX6_planWave_69 rfl (by decide) rfl ?_
              refine KIinc (v := ((n + 1 : Nat) : Int)) (lv' := [(3, .int (iI ((n + 1 : Nat) : Int))), (2, .int (iI (tkN (sgM T q) t (n + 1)))), (0, .ref (q 80)), (1, .int (iI t))]) C dX6_planWave_70 3 rfl (by omega) (by decide) rfl ?_
              refine KGoto (tgt := 26) C dX6_planWave_73 (by decide) ?_
              refine KLv (lv' := [(0, .ref (q 80)), (1, .int (iI t)), (2, .int (iI (tkN (sgM T q) t (n + 1)))), (3, .int (iI ((n + 1 : Nat) : Int)))]) [2, 3, 1, 0] rfl ?_
              exact ih26 (n + 1) (by omega) (by omega)
            · refine KAload_n C dX6_planWave_53 rfl 0 rfl ?_
              refine KGetR (S := T) C ul_X6 rfl (by decide) 7 7 rfl (by decide) rfl u_fl_RX6_17 (hT.at0 80 7) (b := q 82) (hT.ptr 80 7 82) dX6_planWave_54 (fun _ h => h) ?_
              refine KIload_n C dX6_planWave_57 rfl 3 rfl ?_
              refine KIald (S := T)  (v := sI T (q 82) (n : Int)) C 40 (hT.at0 82 20) (hT.ln0 82 40) ⟨by omega, by omega⟩ (by omega) rfl dX6_planWave_58 ?_
              have rb10 := hR.b (q 82) (n : Int) (v := sI T (q 82) (n : Int)) rfl
              refine KIload_n C dX6_planWave_59 rfl 1 rfl ?_
              refine KIcmp_gt (tgt := 67) C dX6_planWave_60 (by decide) ⟨by omega, by omega⟩ ⟨by omega, by omega⟩ (fun c60 => ?_) (fun c60 => ?_)
              · refine KIconst C dX6_planWave_67 ?_
                refine KIadd C dX6_planWave_68 ?_
                refine KTop (congrArg iI (show (tkN (sgM T q) t n) + 0 = tkN (sgM T q) t (n + 1) from (by first | exact tkN_t ⟨by omega, by omega, by omega⟩ | exact tkN_f (by omega)))) ?_
                refine KIstore_n (lv' := [(2, .int (iI (tkN (sgM T q) t (n + 1)))), (0, .ref (q 80)), (1, .int (iI t)), (3, .int (iI (n : Int)))]) C dX6_planWave_69 rfl (by decide) rfl ?_
                refine KIinc (v := ((n + 1 : Nat) : Int)) (lv' := [(3, .int (iI ((n + 1 : Nat) : Int))), (2, .int (iI (tkN (sgM T q) t (n + 1)))), (0, .ref (q 80)), (1, .int (iI t))]) C dX6_planWave_70 3 rfl (by omega) (by decide) rfl ?_
                refine KGoto (tgt := 26) C dX6_planWave_73 (by decide) ?_
                refine KLv (lv' := [(0, .ref (q 80)), (1, .int (iI t)), (2, .int (iI (tkN (sgM T q) t (n + 1)))), (3, .int (iI ((n + 1 : Nat) : Int)))]) [2, 3, 1, 0] rfl ?_
                exact ih26 (n + 1) (by omega) (by omega)
              · refine KIconst C dX6_planWave_63 ?_
                refine KGoto (tgt := 68) C dX6_planWave_64 (by decide) ?_
                refine KIadd C dX6_planWave_68 ?_
                refine KTop (congrArg iI (show (tkN (sgM T q) t n) + 1 = tkN (sgM T q) t (n + 1) from (by first | exact tkN_t ⟨by omega, by omega, by omega⟩ | exact tkN_f (by omega)))) ?_
                refine KIstore_n (lv' := [(2, .int (iI (tkN (sgM T q) t (n + 1)))), (0, .ref (q 80)), (1, .int (iI t)), (3, .int (iI (n : Int)))]) C dX6_planWave_69 rfl (by decide) rfl ?_
                refine KIinc (v := ((n + 1 : Nat) : Int)) (lv' := [(3, .int (iI ((n + 1 : Nat) : Int))), (2, .int (iI (tkN (sgM T q) t (n + 1)))), (0, .ref (q 80)), (1, .int (iI t))]) C dX6_planWave_70 3 rfl (by omega) (by decide) rfl ?_
                refine KGoto (tgt := 26) C dX6_planWave_73 (by decide) ?_
                refine KLv (lv' := [(0, .ref (q 80)), (1, .int (iI t)), (2, .int (iI (tkN (sgM T q) t (n + 1)))), (3, .int (iI ((n + 1 : Nat) : Int)))]) [2, 3, 1, 0] rfl ?_
                exact ih26 (n + 1) (by omega) (by omega)
    exact loop26 _ 0 (Nat.lt_succ_self _) (by omega)
  · refine KSt (st2 := [.int (iI 0)]) rfl ?_
    refine KIf_ne (tgt := 22) C dX6_planWave_13 (by decide) ⟨by omega, by omega⟩ (fun h => absurd h (by decide)) (fun _ => ?_)
    refine KAload_n C dX6_planWave_16 rfl 0 rfl ?_
    refine KIconst C dX6_planWave_17 ?_
    refine KCallV (As := [.int (iI 1)]) (b := q 80) (st := []) C (ct_X6_fails l g T q 1 hT (by omega)) u_ml_RX6_94 u_im_yX6_fails u_se_yX6_fails u_in_RX6 u_co_yX6_fails hd_yX6_fails (hT.at0 80 7) (by decide) rfl rfl ⟨Nat.le_of_ble_eq_true rfl, Nat.le_of_ble_eq_true rfl⟩ ⟨Nat.le_of_ble_eq_true rfl, Nat.le_of_ble_eq_true rfl⟩ (Nat.le_of_ble_eq_true rfl) dX6_planWave_18 rfl (fun v18 u18 hp18 => ?_)
    obtain ⟨rfl, rfl⟩ := hp18
    refine KSt (st2 := [.int (iI 0)]) rfl ?_
    refine KRg (fun hR => ?_)
    refine KIret C rfl rfl (by
      exact hlift _ _ ⟨1, 0, sgM T q, (by unfold oPw; exact if_pos (by omega)), rfl, MP.thr hT hCn 1⟩) (by decide) (by decide) dX6_planWave_21
