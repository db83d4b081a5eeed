def P_X6_layOut (S : Sto) (q : Nat → Nat) : Option Value → Sto → Prop := fun v u => ∃ c r z', oLay (sgM S q) = (c, r, z') ∧ v = some (.int (iI r)) ∧ MP S q u c z'
set_option maxRecDepth 100000 in
set_option maxHeartbeats 4000000 in
theorem ct_X6_layOut (l : Launch) (g : GG) (S : Sto) (q : Nat → Nat) (hT : Top S q) (hW : Wf (sgM S q)) (hCn : Cn S q) : MetS l g yX6_layOut cX6_layOut 4 (some FieldType.int) 4 0 0 [.ref (q 80)] S (P_X6_layOut S q) := by
  refine MetS.of (own := RX6) (lv := [(0, .ref (q 80))]) (by decide) rfl (Nat.le_of_ble_eq_true rfl) rfl ?_
  intro pX eX sX mX argsX belowX methX cX C hin
  refine KRg (fun hR => ?_)
  refine KAload_n C dX6_layOut_0 rfl 0 rfl ?_
  refine KIconst C dX6_layOut_1 ?_
  obtain ⟨T, hTT, hT9, hW, hCn, h00, hz, hM⟩ := MP.start hT hW hCn
  refine KPutI (ty := .int) (v := 0) C ul_X6 rfl (by decide) 0 0 rfl (by decide) rfl u_fl_RX6_59 tyX6 tyX6_ok nmX6 (hT.at0 80 7) ⟨by omega, by omega⟩ (by decide +kernel) rfl rfl rfl dX6_layOut_2 (fun _ h => h) ?_
  refine KSto (S2 := T) hTT.symm ?_
  have hT := hT9
  have hlift : ∀ v u, P_X6_layOut T q v u → P_X6_layOut S q v u := fun v u ⟨c, r, z', h1, h2, h3⟩ => ⟨c, r, z', hz ▸ h1, h2, hM.trans h3⟩
  refine KRg (fun hR => ?_)
  obtain ⟨hc6, hc13⟩ := id hCn
  have hCm : CfM T q := hW.cf
  obtain ⟨hA1, hA2, hN1, hN2, hG1, hG2⟩ := id hCm
  obtain ⟨ho40, hbo⟩ := hW.2.1
  have ezA : zA (sgM T q) = sI T (q 80) 1 := rfl
  have ezN : zN (sgM T q) = sI T (q 80) 2 := rfl
  refine KAload_n C dX6_layOut_5 rfl 0 rfl ?_
  refine KGetI (S := T) C ul_X6 rfl (by decide) 13 13 rfl (by decide) rfl u_fl_RX6_69 (hT.at0 80 7) (v := ((zb (sgM T q) : Nat) : Int)) hc13 dX6_layOut_6 (fun _ h => h) ?_
  have rb1 := hR.b (q 80) 13 (v := ((zb (sgM T q) : Nat) : Int)) hc13
  refine KIf_le (tgt := 18) C dX6_layOut_9 (by decide) ⟨by omega, by omega⟩ (fun c9 => ?_) (fun c9 => ?_)
  · refine KIconst C dX6_layOut_18 ?_
    refine KIstore_n (lv' := [(1, .int (iI 0)), (0, .ref (q 80))]) C dX6_layOut_19 rfl (by decide) rfl ?_
    refine KIconst C dX6_layOut_20 ?_
    refine KIstore_n (lv' := [(2, .int (iI 0)), (1, .int (iI 0)), (0, .ref (q 80))]) C dX6_layOut_21 rfl (by decide) rfl ?_
    refine KSto (S2 := wI T (lyF T q (sI T (q 91)) (sI T (q 92)))) (by show T = wI T (row1 (row1 (sI T) (q 91) (sI T (q 91))) (q 92) (sI T (q 92))); rw [row1_self]; exact congrArg (wI T) (row1_self (sI T) (q 92)).symm) ?_
    refine KLv (lv' := [(0, .ref (q 80)), (1, .int (iI 0)), (2, .int (iI 0))]) [2, 1, 0] rfl ?_
    have loop22 : ∀ (nX : Nat) (p : Nat) (R : Int → Int) (Q : Int → Int), 20 - p < nX → (p ≤ 20) → (HldR R (rkL (sgM T q) p)) → (HldP Q (zP (sgM T q)) (spL (sgM T q) p)) → Wk pX l eX (rmK 4 0 0) sX mX argsX belowX methX cX (MQ belowX (QcG g (P_X6_layOut S q)) argsX sX 0 0 (ge (gB g))) g 4 0 0 22 [(0, .ref (q 80)), (1, .int (iI ((rkL (sgM T q) p).length : Int))), (2, .int (iI (p : Int)))] [] (wI T (lyF T q R Q)) := by
      intro nX
      induction nX with
      | zero => intro p R Q hm; exact absurd hm (Nat.not_lt_zero _)
      | succ nX ih22 =>
        intro p R Q hm22 hp hRr hQq
        refine KRg (fun hR => ?_)
        have hrl := rkL_le (sgM T q) p
        refine KIload_n C dX6_layOut_22 rfl 2 rfl ?_
        refine KBipush C dX6_layOut_23 (by decide) ?_
        refine KIcmp_ge (tgt := 64) C dX6_layOut_25 (by decide) ⟨by omega, by omega⟩ ⟨by omega, by omega⟩ (fun c25 => ?_) (fun c25 => ?_)
        · refine KIconst C dX6_layOut_64 ?_
          refine KIstore_n (lv' := [(2, .int (iI 0)), (0, .ref (q 80)), (1, .int (iI ((rkL (sgM T q) p).length : Int)))]) C dX6_layOut_65 rfl (by decide) rfl ?_
          refine KIconst C dX6_layOut_66 ?_
          refine KIstore_n (lv' := [(3, .int (iI 0)), (2, .int (iI 0)), (0, .ref (q 80)), (1, .int (iI ((rkL (sgM T q) p).length : Int)))]) C dX6_layOut_67 rfl (by decide) rfl ?_
          refine KSto (S2 := wI T (row1 (lyF T q R Q) (q 81) (asg (zP (sgM T q)) (rkL (sgM T q) p) (spL (sgM T q) p) 0).2)) (by rw [show (asg (zP (sgM T q)) (rkL (sgM T q) p) (spL (sgM T q) p) 0).2 = lyF T q R Q (q 81) from (funext fun j => (lyF_at hT R Q 81 j).symm), row1_self]) ?_
          refine KLv (lv' := [(0, .ref (q 80)), (1, .int (iI ((rkL (sgM T q) p).length : Int))), (2, .int (iI 0)), (3, .int (iI 0))]) [2, 3, 1, 0] rfl ?_
          have loop68 : ∀ (nX : Nat) (k : Nat), 20 - k < nX → (k ≤ (rkL (sgM T q) p).length) → Wk pX l eX (rmK 4 0 0) sX mX argsX belowX methX cX (MQ belowX (QcG g (P_X6_layOut S q)) argsX sX 0 0 (ge (gB g))) g 4 0 0 68 [(0, .ref (q 80)), (1, .int (iI ((rkL (sgM T q) p).length : Int))), (2, .int (iI ((asg (zP (sgM T q)) (rkL (sgM T q) p) (spL (sgM T q) p) k).1))), (3, .int (iI (k : Int)))] [] (wI T (row1 (lyF T q R Q) (q 81) (asg (zP (sgM T q)) (rkL (sgM T q) p) (spL (sgM T q) p) k).2)) := by
            intro nX
            induction nX with
            | zero => intro k hm; exact absurd hm (Nat.not_lt_zero _)
            | succ nX ih68 =>
              intro k hm68 hk
              refine KRg (fun hR => ?_)
              have hab := asg_b (z := sgM T q) (rk := rkL (sgM T q) p) (sp := spL (sgM T q) p) k
              refine KIload_n C dX6_layOut_68 rfl 3 rfl ?_
              refine KIload_n C dX6_layOut_69 rfl 1 rfl ?_
              refine KIcmp_ge (tgt := 124) C dX6_layOut_70 (by decide) ⟨by omega, by omega⟩ ⟨by omega, by omega⟩ (fun c70 => ?_) (fun c70 => ?_)
              · refine KIload_n C dX6_layOut_124 rfl 2 rfl ?_
                refine KIret C rfl rfl (by
                  have hk9 : k = (rkL (sgM T q) p).length := by omega
                  have hp20 : p = 20 := by omega
                  subst hk9
                  subst hp20
                  exact hlift _ _ ⟨0, _, zuP (sgM T q) (asg (zP (sgM T q)) (rkL (sgM T q) 20) (spL (sgM T q) 20) (rkL (sgM T q) 20).length).2, (by unfold oLay; exact if_neg (by omega)), rfl, MP.rows0 (fun a ha => ((funext fun _ => row1_ne _ _ _ (fun e9 => ha ⟨81, by omega, by omega, e9⟩)).trans ((funext fun _ => row1_ne _ _ _ (fun e9 => ha ⟨92, by omega, by omega, e9⟩)).trans (funext fun _ => row1_ne _ _ _ (fun e9 => ha ⟨91, by omega, by omega, e9⟩))))) ((row1_ne _ _ _ (hT.ne 80 81)).trans ((row1_ne _ _ _ (hT.ne 80 92)).trans ((row1_ne _ _ _ (hT.ne 80 91)).trans h00))) ⟨((row1_ne _ _ _ (hT.ne 80 81)).trans ((row1_ne _ _ _ (hT.ne 80 92)).trans (row1_ne _ _ _ (hT.ne 80 91)))), ((row1_ne _ _ _ (hT.ne 80 81)).trans ((row1_ne _ _ _ (hT.ne 80 92)).trans (row1_ne _ _ _ (hT.ne 80 91)))), ((row1_ne _ _ _ (hT.ne 80 81)).trans ((row1_ne _ _ _ (hT.ne 80 92)).trans (row1_ne _ _ _ (hT.ne 80 91)))), ((row1_ne _ _ _ (hT.ne 80 81)).trans ((row1_ne _ _ _ (hT.ne 80 92)).trans (row1_ne _ _ _ (hT.ne 80 91))))⟩ ⟨((row1_ne _ _ _ (hT.ne 80 81)).trans ((row1_ne _ _ _ (hT.ne 80 92)).trans ((row1_ne _ _ _ (hT.ne 80 91)).trans hc6))), ((row1_ne _ _ _ (hT.ne 80 81)).trans ((row1_ne _ _ _ (hT.ne 80 92)).trans ((row1_ne _ _ _ (hT.ne 80 91)).trans hc13))), ((row1_ne _ _ _ (hT.ne 80 81)).trans ((row1_ne _ _ _ (hT.ne 80 92)).trans (row1_ne _ _ _ (hT.ne 80 91)))), rfl⟩ ⟨(funext fun _ => row1_same _ _ _ _), ((funext fun _ => row1_ne _ _ _ (hT.ne 82 81)).trans ((funext fun _ => row1_ne _ _ _ (hT.ne 82 92)).trans (funext fun _ => row1_ne _ _ _ (hT.ne 82 91)))), ((funext fun _ => row1_ne _ _ _ (hT.ne 83 81)).trans ((funext fun _ => row1_ne _ _ _ (hT.ne 83 92)).trans (funext fun _ => row1_ne _ _ _ (hT.ne 83 91)))), ((funext fun _ => row1_ne _ _ _ (hT.ne 84 81)).trans ((funext fun _ => row1_ne _ _ _ (hT.ne 84 92)).trans (funext fun _ => row1_ne _ _ _ (hT.ne 84 91)))), ((funext fun _ => row1_ne _ _ _ (hT.ne 85 81)).trans ((funext fun _ => row1_ne _ _ _ (hT.ne 85 92)).trans (funext fun _ => row1_ne _ _ _ (hT.ne 85 91)))), ((funext fun _ => row1_ne _ _ _ (hT.ne 86 81)).trans ((funext fun _ => row1_ne _ _ _ (hT.ne 86 92)).trans (funext fun _ => row1_ne _ _ _ (hT.ne 86 91)))), ((funext fun _ => row1_ne _ _ _ (hT.ne 87 81)).trans ((funext fun _ => row1_ne _ _ _ (hT.ne 87 92)).trans (funext fun _ => row1_ne _ _ _ (hT.ne 87 91))))⟩⟩) (by decide) (by decide) dX6_layOut_125
              · refine KIload_n C dX6_layOut_73 rfl 2 rfl ?_
                refine KAload_n C dX6_layOut_74 rfl 0 rfl ?_
                refine KGetR (S := wI T (row1 (lyF T q R Q) (q 81) (asg (zP (sgM T q)) (rkL (sgM T q) p) (spL (sgM T q) p) k).2)) C ul_X6 rfl (by decide) 5 5 rfl (by decide) rfl u_fl_RX6_13 (hT.at0 80 7) (b := q 81) (hT.ptr 80 5 81) dX6_layOut_75 (fun _ h => h) ?_
                refine KAload_n C dX6_layOut_78 rfl 0 rfl ?_
                refine KGetR (S := wI T (row1 (lyF T q R Q) (q 81) (asg (zP (sgM T q)) (rkL (sgM T q) p) (spL (sgM T q) p) k).2)) C ul_X6 rfl (by decide) 20 20 rfl (by decide) rfl u_fl_RX6_44 (hT.at0 80 7) (b := q 91) (hT.ptr 80 20 91) dX6_layOut_79 (fun _ h => h) ?_
                refine KIload_n C dX6_layOut_82 rfl 3 rfl ?_
                refine KIald (S := wI T (row1 (lyF T q R Q) (q 81) (asg (zP (sgM T q)) (rkL (sgM T q) p) (spL (sgM T q) p) k).2))  (v := (((rkL (sgM T q) p).getD k 0 : Nat) : Int)) C 20 (hT.at0 91 20) (hT.ln0 91 20) ⟨by omega, by omega⟩ (by omega) ((row1_ne _ _ _ (hT.ne 91 81)).trans ((lyF_91 hT R Q _).trans (hRr k (by omega)))) dX6_layOut_83 ?_
                have rb2 := hR.b (q 91) (k : Int) (v := (((rkL (sgM T q) p).getD k 0 : Nat) : Int)) ((row1_ne _ _ _ (hT.ne 91 81)).trans ((lyF_91 hT R Q _).trans (hRr k (by omega))))
                have hrm := (rkL_mem (sgM T q) p k (by omega)).1
                refine KIald (S := wI T (row1 (lyF T q R Q) (q 81) (asg (zP (sgM T q)) (rkL (sgM T q) p) (spL (sgM T q) p) k).2))  (v := (asg (zP (sgM T q)) (rkL (sgM T q) p) (spL (sgM T q) p) k).2 (((rkL (sgM T q) p).getD k 0 : Nat) : Int)) C 20 (hT.at0 81 20) (hT.ln0 81 20) ⟨by omega, by omega⟩ (by omega) (row1_same _ _ _ _) dX6_layOut_84 ?_
                have rb3 := hR.b (q 81) (((rkL (sgM T q) p).getD k 0 : Nat) : Int) (v := (asg (zP (sgM T q)) (rkL (sgM T q) p) (spL (sgM T q) p) k).2 (((rkL (sgM T q) p).getD k 0 : Nat) : Int)) (row1_same _ _ _ _)
                refine KAload_n C dX6_layOut_85 rfl 0 rfl ?_
                refine KGetR (S := wI T (row1 (lyF T q R Q) (q 81) (asg (zP (sgM T q)) (rkL (sgM T q) p) (spL (sgM T q) p) k).2)) C ul_X6 rfl (by decide) 21 21 rfl (by decide) rfl u_fl_RX6_47 (hT.at0 80 7) (b := q 92) (hT.ptr 80 21 92) dX6_layOut_86 (fun _ h => h) ?_
                refine KIload_n C dX6_layOut_89 rfl 3 rfl ?_
                refine KIald (S := wI T (row1 (lyF T q R Q) (q 81) (asg (zP (sgM T q)) (rkL (sgM T q) p) (spL (sgM T q) p) k).2))  (v := zP (sgM T q) (((spL (sgM T q) p).getD k 0 : Nat) : Int)) C 20 (hT.at0 92 20) (hT.ln0 92 20) ⟨by omega, by omega⟩ (by omega) ((row1_ne _ _ _ (hT.ne 92 81)).trans ((lyF_92 R Q _).trans (hQq k (by rw [rk_sp_len]; omega)))) dX6_layOut_90 ?_
                have rb4 := hR.b (q 92) (k : Int) (v := zP (sgM T q) (((spL (sgM T q) p).getD k 0 : Nat) : Int)) ((row1_ne _ _ _ (hT.ne 92 81)).trans ((lyF_92 R Q _).trans (hQq k (by rw [rk_sp_len]; omega))))
                refine KIcmp_ne (tgt := 98) C dX6_layOut_91 (by decide) ⟨by omega, by omega⟩ ⟨by omega, by omega⟩ (fun c91 => ?_) (fun c91 => ?_)
                · refine KIconst C dX6_layOut_98 ?_
                  refine KIadd C dX6_layOut_99 ?_
                  refine KTop (congrArg iI (show ((asg (zP (sgM T q)) (rkL (sgM T q) p) (spL (sgM T q) p) k).1) + 1 = (asg (zP (sgM T q)) (rkL (sgM T q) p) (spL (sgM T q) p) (k + 1)).1 from (by first | exact asg_t (by assumption) | exact asg_f (by assumption)))) ?_
                  refine KIstore_n (lv' := [(2, .int (iI ((asg (zP (sgM T q)) (rkL (sgM T q) p) (spL (sgM T q) p) (k + 1)).1))), (0, .ref (q 80)), (1, .int (iI ((rkL (sgM T q) p).length : Int))), (3, .int (iI (k : Int)))]) C dX6_layOut_100 rfl (by decide) rfl ?_
                  refine KAload_n C dX6_layOut_101 rfl 1 rfl ?_
                  refine KGetR (S := wI T (row1 (lyF T q R Q) (q 81) (asg (zP (sgM T q)) (rkL (sgM T q) p) (spL (sgM T q) p) k).2)) C ul_X6 rfl (by decide) 5 5 rfl (by decide) rfl u_fl_RX6_13 (hT.at0 80 7) (b := q 81) (hT.ptr 80 5 81) dX6_layOut_102 (fun _ h => h) ?_
                  refine KAload_n C dX6_layOut_105 rfl 1 rfl ?_
                  refine KGetR (S := wI T (row1 (lyF T q R Q) (q 81) (asg (zP (sgM T q)) (rkL (sgM T q) p) (spL (sgM T q) p) k).2)) C ul_X6 rfl (by decide) 20 20 rfl (by decide) rfl u_fl_RX6_44 (hT.at0 80 7) (b := q 91) (hT.ptr 80 20 91) dX6_layOut_106 (fun _ h => h) ?_
                  refine KIload_n C dX6_layOut_109 rfl 3 rfl ?_
                  refine KIald (S := wI T (row1 (lyF T q R Q) (q 81) (asg (zP (sgM T q)) (rkL (sgM T q) p) (spL (sgM T q) p) k).2))  (v := (((rkL (sgM T q) p).getD k 0 : Nat) : Int)) C 20 (hT.at0 91 20) (hT.ln0 91 20) ⟨by omega, by omega⟩ (by omega) ((row1_ne _ _ _ (hT.ne 91 81)).trans ((lyF_91 hT R Q _).trans (hRr k (by omega)))) dX6_layOut_110 ?_
                  have rb5 := hR.b (q 91) (k : Int) (v := (((rkL (sgM T q) p).getD k 0 : Nat) : Int)) ((row1_ne _ _ _ (hT.ne 91 81)).trans ((lyF_91 hT R Q _).trans (hRr k (by omega))))
                  refine KAload_n C dX6_layOut_111 rfl 1 rfl ?_
                  refine KGetR (S := wI T (row1 (lyF T q R Q) (q 81) (asg (zP (sgM T q)) (rkL (sgM T q) p) (spL (sgM T q) p) k).2)) C ul_X6 rfl (by decide) 21 21 rfl (by decide) rfl u_fl_RX6_47 (hT.at0 80 7) (b := q 92) (hT.ptr 80 21 92) dX6_layOut_112 (fun _ h => h) ?_
                  refine KIload_n C dX6_layOut_115 rfl 3 rfl ?_
                  refine KIald (S := wI T (row1 (lyF T q R Q) (q 81) (asg (zP (sgM T q)) (rkL (sgM T q) p) (spL (sgM T q) p) k).2))  (v := zP (sgM T q) (((spL (sgM T q) p).getD k 0 : Nat) : Int)) C 20 (hT.at0 92 20) (hT.ln0 92 20) ⟨by omega, by omega⟩ (by omega) ((row1_ne _ _ _ (hT.ne 92 81)).trans ((lyF_92 R Q _).trans (hQq k (by rw [rk_sp_len]; omega)))) dX6_layOut_116 ?_
                  have rb6 := hR.b (q 92) (k : Int) (v := zP (sgM T q) (((spL (sgM T q) p).getD k 0 : Nat) : Int)) ((row1_ne _ _ _ (hT.ne 92 81)).trans ((lyF_92 R Q _).trans (hQq k (by rw [rk_sp_len]; omega))))
                  refine KIast (S := wI T (row1 (lyF T q R Q) (q 81) (asg (zP (sgM T q)) (rkL (sgM T q) p) (spL (sgM T q) p) k).2)) C 20 (hT.at0 81 20) (hT.ln0 81 20) ⟨by omega, by omega⟩ (by omega) ⟨by omega, by omega⟩ dX6_layOut_117 ?_
                  refine KSto (S2 := wI T (row1 (lyF T q R Q) (q 81) (asg (zP (sgM T q)) (rkL (sgM T q) p) (spL (sgM T q) p) (k + 1)).2)) (congrArg (wI T) (up2_row1 _ _ _ _ _)) ?_
                  refine KIinc (v := ((k + 1 : Nat) : Int)) (lv' := [(3, .int (iI ((k + 1 : Nat) : Int))), (2, .int (iI ((asg (zP (sgM T q)) (rkL (sgM T q) p) (spL (sgM T q) p) (k + 1)).1))), (0, .ref (q 80)), (1, .int (iI ((rkL (sgM T q) p).length : Int)))]) C dX6_layOut_118 3 rfl (by omega) (by decide) rfl ?_
                  refine KGoto (tgt := 68) C dX6_layOut_121 (by decide) ?_
                  refine KLv (lv' := [(0, .ref (q 80)), (1, .int (iI ((rkL (sgM T q) p).length : Int))), (2, .int (iI ((asg (zP (sgM T q)) (rkL (sgM T q) p) (spL (sgM T q) p) (k + 1)).1))), (3, .int (iI ((k + 1 : Nat) : Int)))]) [2, 3, 1, 0] rfl ?_
                  exact ih68 (k + 1) (by omega) (by omega)
                · refine KIconst C dX6_layOut_94 ?_
                  refine KGoto (tgt := 99) C dX6_layOut_95 (by decide) ?_
                  refine KIadd C dX6_layOut_99 ?_
                  refine KTop (congrArg iI (show ((asg (zP (sgM T q)) (rkL (sgM T q) p) (spL (sgM T q) p) k).1) + 0 = (asg (zP (sgM T q)) (rkL (sgM T q) p) (spL (sgM T q) p) (k + 1)).1 from (by first | exact asg_t (by assumption) | exact asg_f (by assumption)))) ?_
                  refine KIstore_n (lv' := [(2, .int (iI ((asg (zP (sgM T q)) (rkL (sgM T q) p) (spL (sgM T q) p) (k + 1)).1))), (0, .ref (q 80)), (1, .int (iI ((rkL (sgM T q) p).length : Int))), (3, .int (iI (k : Int)))]) C dX6_layOut_100 rfl (by decide) rfl ?_
                  refine KAload_n C dX6_layOut_101 rfl 1 rfl ?_
                  refine KGetR (S := wI T (row1 (lyF T q R Q) (q 81) (asg (zP (sgM T q)) (rkL (sgM T q) p) (spL (sgM T q) p) k).2)) C ul_X6 rfl (by decide) 5 5 rfl (by decide) rfl u_fl_RX6_13 (hT.at0 80 7) (b := q 81) (hT.ptr 80 5 81) dX6_layOut_102 (fun _ h => h) ?_
                  refine KAload_n C dX6_layOut_105 rfl 1 rfl ?_
                  refine KGetR (S := wI T (row1 (lyF T q R Q) (q 81) (asg (zP (sgM T q)) (rkL (sgM T q) p) (spL (sgM T q) p) k).2)) C ul_X6 rfl (by decide) 20 20 rfl (by decide) rfl u_fl_RX6_44 (hT.at0 80 7) (b := q 91) (hT.ptr 80 20 91) dX6_layOut_106 (fun _ h => h) ?_
                  refine KIload_n C dX6_layOut_109 rfl 3 rfl ?_
                  refine KIald (S := wI T (row1 (lyF T q R Q) (q 81) (asg (zP (sgM T q)) (rkL (sgM T q) p) (spL (sgM T q) p) k).2))  (v := (((rkL (sgM T q) p).getD k 0 : Nat) : Int)) C 20 (hT.at0 91 20) (hT.ln0 91 20) ⟨by omega, by omega⟩ (by omega) ((row1_ne _ _ _ (hT.ne 91 81)).trans ((lyF_91 hT R Q _).trans (hRr k (by omega)))) dX6_layOut_110 ?_
                  have rb7 := hR.b (q 91) (k : Int) (v := (((rkL (sgM T q) p).getD k 0 : Nat) : Int)) ((row1_ne _ _ _ (hT.ne 91 81)).trans ((lyF_91 hT R Q _).trans (hRr k (by omega))))
                  refine KAload_n C dX6_layOut_111 rfl 1 rfl ?_
                  refine KGetR (S := wI T (row1 (lyF T q R Q) (q 81) (asg (zP (sgM T q)) (rkL (sgM T q) p) (spL (sgM T q) p) k).2)) C ul_X6 rfl (by decide) 21 21 rfl (by decide) rfl u_fl_RX6_47 (hT.at0 80 7) (b := q 92) (hT.ptr 80 21 92) dX6_layOut_112 (fun _ h => h) ?_
                  refine KIload_n C dX6_layOut_115 rfl 3 rfl ?_
                  refine KIald (S := wI T (row1 (lyF T q R Q) (q 81) (asg (zP (sgM T q)) (rkL (sgM T q) p) (spL (sgM T q) p) k).2))  (v := zP (sgM T q) (((spL (sgM T q) p).getD k 0 : Nat) : Int)) C 20 (hT.at0 92 20) (hT.ln0 92 20) ⟨by omega, by omega⟩ (by omega) ((row1_ne _ _ _ (hT.ne 92 81)).trans ((lyF_92 R Q _).trans (hQq k (by rw [rk_sp_len]; omega)))) dX6_layOut_116 ?_
                  have rb8 := hR.b (q 92) (k : Int) (v := zP (sgM T q) (((spL (sgM T q) p).getD k 0 : Nat) : Int)) ((row1_ne _ _ _ (hT.ne 92 81)).trans ((lyF_92 R Q _).trans (hQq k (by rw [rk_sp_len]; omega))))
                  refine KIast (S := wI T (row1 (lyF T q R Q) (q 81) (asg (zP (sgM T q)) (rkL (sgM T q) p) (spL (sgM T q) p) k).2)) C 20 (hT.at0 81 20) (hT.ln0 81 20) ⟨by omega, by omega⟩ (by omega) ⟨by omega, by omega⟩ dX6_layOut_117 ?_
                  refine KSto (S2 := wI T (row1 (lyF T q R Q) (q 81) (asg (zP (sgM T q)) (rkL (sgM T q) p) (spL (sgM T q) p) (k + 1)).2)) (congrArg (wI T) (up2_row1 _ _ _ _ _)) ?_
                  refine KIinc (v := ((k + 1 : Nat) : Int)) (lv' := [(3, .int (iI ((k + 1 : Nat) : Int))), (2, .int (iI ((asg (zP (sgM T q)) (rkL (sgM T q) p) (spL (sgM T q) p) (k + 1)).1))), (0, .ref (q 80)), (1, .int (iI ((rkL (sgM T q) p).length : Int)))]) C dX6_layOut_118 3 rfl (by omega) (by decide) rfl ?_
                  refine KGoto (tgt := 68) C dX6_layOut_121 (by decide) ?_
                  refine KLv (lv' := [(0, .ref (q 80)), (1, .int (iI ((rkL (sgM T q) p).length : Int))), (2, .int (iI ((asg (zP (sgM T q)) (rkL (sgM T q) p) (spL (sgM T q) p) (k + 1)).1))), (3, .int (iI ((k + 1 : Nat) : Int)))]) [2, 3, 1, 0] rfl ?_
                  exact ih68 (k + 1) (by omega) (by omega)
          exact loop68 _ 0 (Nat.lt_succ_self _) (by omega)
        · refine KAload_n C dX6_layOut_28 rfl 0 rfl ?_
          refine KGetR (S := wI T (lyF T q R Q)) C ul_X6 rfl (by decide) 5 5 rfl (by decide) rfl u_fl_RX6_13 (hT.at0 80 7) (b := q 81) (hT.ptr 80 5 81) dX6_layOut_29 (fun _ h => h) ?_
          refine KIload_n C dX6_layOut_32 rfl 2 rfl ?_
          refine KIald (S := wI T (lyF T q R Q))  (v := sI T (q 81) (p : Int)) C 20 (hT.at0 81 20) (hT.ln0 81 20) ⟨by omega, by omega⟩ (by omega) (lyF_at hT R Q 81 _) dX6_layOut_33 ?_
          have rb9 := hR.b (q 81) (p : Int) (v := sI T (q 81) (p : Int)) (lyF_at hT R Q 81 _)
          refine KIconst C dX6_layOut_34 ?_
          refine KIcmp_eq (tgt := 58) C dX6_layOut_35 (by decide) ⟨by omega, by omega⟩ ⟨by omega, by omega⟩ (fun c35 => ?_) (fun c35 => ?_)
          · have hzp : zP (sgM T q) (p : Int) = -1 := c35
            refine KLvE (lv2 := [(0, .ref (q 80)), (1, .int (iI ((rkL (sgM T q) (p + 1)).length : Int))), (2, .int (iI (p : Int)))]) (congrArg (fun zz : Int => ([(0, .ref (q 80)), (1, .int (iI zz)), (2, .int (iI (p : Int)))] : List (Nat × Value))) (show (((rkL (sgM T q) p).length : Int) : Int) = ((rkL (sgM T q) (p + 1)).length : Int) from (by rw [rkL_s hzp]))) ?_
            refine KIinc (v := ((p + 1 : Nat) : Int)) (lv' := [(2, .int (iI ((p + 1 : Nat) : Int))), (0, .ref (q 80)), (1, .int (iI ((rkL (sgM T q) (p + 1)).length : Int)))]) C dX6_layOut_58 2 rfl (by omega) (by decide) rfl ?_
            refine KGoto (tgt := 22) C dX6_layOut_61 (by decide) ?_
            refine KLv (lv' := [(0, .ref (q 80)), (1, .int (iI ((rkL (sgM T q) (p + 1)).length : Int))), (2, .int (iI ((p + 1 : Nat) : Int)))]) [1, 2, 0] rfl ?_
            exact ih22 (p + 1) _ _ (by omega) (by omega) (by first | exact hR1 | (rw [rkL_s hzp]; exact hRr)) (by first | exact hQ1 | (rw [spL_s hzp]; exact hQq))
          · have hzp : ¬ zP (sgM T q) (p : Int) = -1 := c35
            have hpl := hW.plI (x := (p : Int)) (by omega)
            have ezp : zP (sgM T q) (p : Int) = sI T (q 81) (p : Int) := rfl
            refine KAload_n C dX6_layOut_38 rfl 0 rfl ?_
            refine KIload_n C dX6_layOut_39 rfl 2 rfl ?_
            refine KIload_n C dX6_layOut_40 rfl 1 rfl ?_
            refine KCallV (As := [.int (iI (p : Int)), .int (iI ((rkL (sgM T q) p).length : Int))]) (b := q 80) (st := []) C (ct_X6_ranks l g (wI T (lyF T q R Q)) q (p : Int) ((rkL (sgM T q) p).length) hT (by rw [lyF_sg hT]; exact hW.wq) (lyF_cn hT hCn R Q) (by omega) (by omega) (fun j hj => by rw [show sI (wI T (lyF T q R Q)) (q 91) (j : Int) = R (j : Int) from lyF_91 hT R Q _, hRr j hj]; have := rkL_mem (sgM T q) p j hj; omega)) u_ml_RX6_101 u_im_yX6_ranks u_se_yX6_ranks u_in_RX6 u_co_yX6_ranks hd_yX6_ranks (hT.at0 80 7) (by decide) rfl rfl ⟨Nat.le_of_ble_eq_true rfl, Nat.le_of_ble_eq_true rfl⟩ ⟨Nat.le_of_ble_eq_true rfl, Nat.le_of_ble_eq_true rfl⟩ (Nat.le_of_ble_eq_true rfl) dX6_layOut_41 rfl (fun v41 u41 hp41 => ?_)
            obtain ⟨rfl, rfl⟩ := hp41
            refine KSt (st2 := []) rfl ?_
            refine KRg (fun hR => ?_)
            obtain ⟨R1, hE, hR1⟩ := lay_rk (Q := Q) hT hRr hzp
            refine KSto (S2 := wI T (lyF T q R1 Q)) hE ?_
            refine KAload_n C dX6_layOut_44 rfl 0 rfl ?_
            refine KAload_n C dX6_layOut_45 rfl 0 rfl ?_
            refine KGetR (S := wI T (lyF T q R1 Q)) C ul_X6 rfl (by decide) 5 5 rfl (by decide) rfl u_fl_RX6_13 (hT.at0 80 7) (b := q 81) (hT.ptr 80 5 81) dX6_layOut_46 (fun _ h => h) ?_
            refine KIload_n C dX6_layOut_49 rfl 2 rfl ?_
            refine KRg (fun hR => ?_)
            refine KIald (S := wI T (lyF T q R1 Q))  (v := sI T (q 81) (p : Int)) C 20 (hT.at0 81 20) (hT.ln0 81 20) ⟨by omega, by omega⟩ (by omega) (lyF_at hT R1 Q 81 _) dX6_layOut_50 ?_
            have rb10 := hR.b (q 81) (p : Int) (v := sI T (q 81) (p : Int)) (lyF_at hT R1 Q 81 _)
            refine KIload_n C dX6_layOut_51 rfl 1 rfl ?_
            refine KCallV (As := [.int (iI (sI T (q 81) (p : Int))), .int (iI ((rkL (sgM T q) p).length : Int))]) (b := q 80) (st := []) C (ct_X6_spreads l g (wI T (lyF T q R1 Q)) q (sI T (q 81) (p : Int)) ((rkL (sgM T q) p).length) hT (hCm.of (lyF_at hT R1 Q 80 1) (lyF_at hT R1 Q 80 2) (lyF_at hT R1 Q 80 3)) (by rw [show sI (wI T (lyF T q R1 Q)) (q 80) 2 = sI T (q 80) 2 from lyF_at hT R1 Q 80 2]; unfold isPl; omega) (by omega) (fun j hj => by rw [show sI (wI T (lyF T q R1 Q)) (q 80) 2 = sI T (q 80) 2 from lyF_at hT R1 Q 80 2, show sI (wI T (lyF T q R1 Q)) (q 92) (j : Int) = Q (j : Int) from lyF_92 R1 Q _]; exact lay_pl hW (by omega) hQq j hj)) u_ml_RX6_105 u_im_yX6_spreads u_se_yX6_spreads u_in_RX6 u_co_yX6_spreads hd_yX6_spreads (hT.at0 80 7) (by decide) rfl rfl ⟨Nat.le_of_ble_eq_true rfl, Nat.le_of_ble_eq_true rfl⟩ ⟨Nat.le_of_ble_eq_true rfl, Nat.le_of_ble_eq_true rfl⟩ (Nat.le_of_ble_eq_true rfl) dX6_layOut_52 rfl (fun v52 u52 hp52 => ?_)
            obtain ⟨rfl, rfl⟩ := hp52
            refine KSt (st2 := []) rfl ?_
            refine KRg (fun hR => ?_)
            obtain ⟨Q1, hE2, hQ1⟩ := lay_sp (k := (rkL (sgM T q) p).length) (R := R1) hT (rk_sp_len (sgM T q) p).symm hQq hzp
            have hl1 : (rkL (sgM T q) (p + 1)).length = (rkL (sgM T q) p).length + 1 := by rw [rkL_p hzp, insL_len]
            refine KSto (S2 := wI T (lyF T q R1 Q1)) hE2 ?_
            refine KIinc (v := ((rkL (sgM T q) (p + 1)).length : Int)) (lv' := [(1, .int (iI ((rkL (sgM T q) (p + 1)).length : Int))), (0, .ref (q 80)), (2, .int (iI (p : Int)))]) C dX6_layOut_55 1 rfl (by omega) (by decide) rfl ?_
            refine KIinc (v := ((p + 1 : Nat) : Int)) (lv' := [(2, .int (iI ((p + 1 : Nat) : Int))), (1, .int (iI ((rkL (sgM T q) (p + 1)).length : Int))), (0, .ref (q 80))]) C dX6_layOut_58 2 rfl (by omega) (by decide) rfl ?_
            refine KGoto (tgt := 22) C dX6_layOut_61 (by decide) ?_
            refine KLv (lv' := [(0, .ref (q 80)), (1, .int (iI ((rkL (sgM T q) (p + 1)).length : Int))), (2, .int (iI ((p + 1 : Nat) : Int)))]) [2, 1, 0] rfl ?_
            exact ih22 (p + 1) _ _ (by omega) (by omega) (by first | exact hR1 | (rw [rkL_s hzp]; exact hRr)) (by first | exact hQ1 | (rw [spL_s hzp]; exact hQq))
    exact loop22 _ 0 (sI T (q 91)) (sI T (q 92)) (Nat.lt_succ_self _) (by omega) (fun j h => absurd h (Nat.not_lt_zero _)) (fun j h => absurd h (Nat.not_lt_zero _))
  · refine KAload_n C dX6_layOut_12 rfl 0 rfl ?_
    refine KIconst C dX6_layOut_13 ?_
    refine KCallV (As := [.int (iI 1)]) (b := q 80) (st := []) C (ct_X6_fails l g T q 1 hT (by omega)) u_ml_RX6_94 u_im_yX6_fails u_se_yX6_fails u_in_RX6 u_co_yX6_fails hd_yX6_fails (hT.at0 80 7) (by decide) rfl rfl ⟨Nat.le_of_ble_eq_true rfl, Nat.le_of_ble_eq_true rfl⟩ ⟨Nat.le_of_ble_eq_true rfl, Nat.le_of_ble_eq_true rfl⟩ (Nat.le_of_ble_eq_true rfl) dX6_layOut_14 rfl (fun v14 u14 hp14 => ?_)
    obtain ⟨rfl, rfl⟩ := hp14
    refine KSt (st2 := [.int (iI 0)]) rfl ?_
    refine KRg (fun hR => ?_)
    refine KIret C rfl rfl (by
      exact hlift _ _ ⟨1, 0, sgM T q, (by unfold oLay; exact if_pos (by omega)), rfl, MP.thr hT hCn 1⟩) (by decide) (by decide) dX6_layOut_17
