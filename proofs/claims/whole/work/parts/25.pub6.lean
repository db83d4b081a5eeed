def P_X6_pick (S : Sto) (q : Nat → Nat) (b : Int) : Option Value → Sto → Prop := fun v u => ∃ c r z', oPk (sgM S q) b = (c, r, z') ∧ v = some (.int (iI r)) ∧ MP S q u c z'
set_option maxRecDepth 100000 in
set_option maxHeartbeats 4000000 in
theorem ct_X6_pick (l : Launch) (g : GG) (S : Sto) (q : Nat → Nat) (b : Int) (hT : Top S q) (hW : Wf (sgM S q)) (hCn : Cn S q) (hib : inR b) : MetS l g yX6_pick cX6_pick 4 (some FieldType.int) 6 0 0 [.ref (q 80), .int (iI b)] S (P_X6_pick S q b) := by
  refine MetS.of (own := RX6) (lv := [(0, .ref (q 80)), (1, .int (iI b))]) (by decide) rfl (Nat.le_of_ble_eq_true rfl) rfl ?_
  intro pX eX sX mX argsX belowX methX cX C hin
  refine KRg (fun hR => ?_)
  obtain ⟨b1, b2⟩ := id hib
  refine KAload_n C dX6_pick_0 rfl 0 rfl ?_
  refine KIconst C dX6_pick_1 ?_
  obtain ⟨T, hTT, hT9, hW, hCn, h00, hz, hM⟩ := MP.start hT hW hCn
  refine KPutI (ty := .int) (v := 0) C ul_X6 rfl (by decide) 0 0 rfl (by decide) rfl u_fl_RX6_59 tyX6 tyX6_ok nmX6 (hT.at0 80 7) ⟨by omega, by omega⟩ (by decide +kernel) rfl rfl rfl dX6_pick_2 (fun _ h => h) ?_
  refine KSto (S2 := T) hTT.symm ?_
  have hT := hT9
  have hlift : ∀ v u, P_X6_pick T q b v u → P_X6_pick S q b v u := fun v u ⟨c, r, z', h1, h2, h3⟩ => ⟨c, r, z', hz ▸ h1, h2, hM.trans h3⟩
  refine KRg (fun hR => ?_)
  obtain ⟨hc6, hc13⟩ := id hCn
  have hCm : CfM T q := hW.cf
  obtain ⟨hA1, hA2, hN1, hN2, hG1, hG2⟩ := id hCm
  obtain ⟨ho40, hbo⟩ := hW.2.1
  have ezA : zA (sgM T q) = sI T (q 80) 1 := rfl
  have ezN : zN (sgM T q) = sI T (q 80) 2 := rfl
  refine KAload_n C dX6_pick_5 rfl 0 rfl ?_
  refine KIload_n C dX6_pick_6 rfl 1 rfl ?_
  refine KCallV (As := [.int (iI b)]) (b := q 80) (st := []) C (ct_X6_isBatch l g T q b hT (⟨by omega, by omega⟩) (by omega)) u_ml_RX6_130 u_im_yX6_isBatch u_se_yX6_isBatch u_in_RX6 u_co_yX6_isBatch hd_yX6_isBatch (hT.at0 80 7) (by decide) rfl rfl ⟨Nat.le_of_ble_eq_true rfl, Nat.le_of_ble_eq_true rfl⟩ ⟨Nat.le_of_ble_eq_true rfl, Nat.le_of_ble_eq_true rfl⟩ (Nat.le_of_ble_eq_true rfl) dX6_pick_7 rfl (fun v7 u7 hp7 => ?_)
  obtain ⟨⟨b7, rfl⟩ | ⟨b7, rfl⟩, rfl⟩ := hp7
  · refine KSt (st2 := [.int (iI 1)]) rfl ?_
    have hba : isBa (sgM T q) b := ⟨by omega, by omega⟩
    obtain ⟨y, hy⟩ : ∃ y : Nat, b = (y : Int) := ⟨b.toNat, by omega⟩
    have hyl : y < zb (sgM T q) := by omega
    have hoky := hW.okB (hW.lnB hyl)
    have hzw := hW.2.2.2.2.2.2.2.1
    have hdn := dn_le (zst (sgM T q)) (zo (sgM T q))
    refine KLvE (lv2 := [(0, .ref (q 80)), (1, .int (iI (y : Int)))]) (congrArg (fun zz : Int => ([(0, .ref (q 80)), (1, .int (iI zz))] : List (Nat × Value))) (show (b : Int) = (y : Int) from hy)) ?_
    refine KIf_ne (tgt := 19) C dX6_pick_10 (by decide) ⟨by omega, by omega⟩ (fun _ => ?_) (fun h => absurd h (by decide))
    refine KAload_n C dX6_pick_19 rfl 0 rfl ?_
    refine KAload_n C dX6_pick_20 rfl 0 rfl ?_
    refine KIload_n C dX6_pick_21 rfl 1 rfl ?_
    refine KCallV (As := [.int (iI (y : Int))]) (b := q 80) (st := [.ref (q 80)]) C (ct_X6_productsOf l g T q (y : Int) hT hW.wl hCn (by omega)) u_ml_RX6_120 u_im_yX6_productsOf u_se_yX6_productsOf u_in_RX6 u_co_yX6_productsOf hd_yX6_productsOf (hT.at0 80 7) (by decide) rfl rfl ⟨Nat.le_of_ble_eq_true rfl, Nat.le_of_ble_eq_true rfl⟩ ⟨Nat.le_of_ble_eq_true rfl, Nat.le_of_ble_eq_true rfl⟩ (Nat.le_of_ble_eq_true rfl) dX6_pick_22 rfl (fun v22 u22 hp22 => ?_)
    obtain ⟨rfl, rfl⟩ := hp22
    refine KSt (st2 := [.int (iI ((zpd (sgM T q) (y : Int) : Nat) : Int)), .ref (q 80)]) rfl ?_
    refine KRg (fun hR => ?_)
    refine KCallV (As := [.int (iI ((zpd (sgM T q) (y : Int) : Nat) : Int))]) (b := q 80) (st := []) C (ct_X6_length l g T q (zpd (sgM T q) (y : Int)) hT hCm hoky) u_ml_RX6_114 u_im_yX6_length u_se_yX6_length u_in_RX6 u_co_yX6_length hd_yX6_length (hT.at0 80 7) (by decide) rfl rfl ⟨Nat.le_of_ble_eq_true rfl, Nat.le_of_ble_eq_true rfl⟩ ⟨Nat.le_of_ble_eq_true rfl, Nat.le_of_ble_eq_true rfl⟩ (Nat.le_of_ble_eq_true rfl) dX6_pick_25 rfl (fun v25 u25 hp25 => ?_)
    obtain ⟨rfl, f25, rfl, hK25, hs25⟩ := hp25
    refine KSt (st2 := [.int (iI (tour (sI T (q 80) 2) (sI T (q 80) 3) (sI T (q 81)) (zpd (sgM T q) (y : Int))))]) rfl ?_
    refine KRg (fun hR => ?_)
    refine KTop (congrArg iI (show tour (sI T (q 80) 2) (sI T (q 80) 3) (sI T (q 81)) (zpd (sgM T q) (y : Int)) = zto (sgM T q) (zpd (sgM T q) (y : Int)) from rfl)) ?_
    have hwb := zto_b hW hoky
    refine KIstore_n (lv' := [(2, .int (iI (zto (sgM T q) (zpd (sgM T q) (y : Int))))), (0, .ref (q 80)), (1, .int (iI (y : Int)))]) C dX6_pick_28 rfl (by decide) rfl ?_
    refine KIconst C dX6_pick_29 ?_
    refine KIstore_n (lv' := [(3, .int (iI 0)), (2, .int (iI (zto (sgM T q) (zpd (sgM T q) (y : Int))))), (0, .ref (q 80)), (1, .int (iI (y : Int)))]) C dX6_pick_30 rfl (by decide) rfl ?_
    refine KSto (S2 := uJ (wI T f25) (q 80) 15 (za (sgM T q) + alI (sgM T q) (y : Int) 0)) (by show wJ (wI T f25) (sJ T) = wJ (wI T f25) (up2 (sJ T) (q 80) 15 (sJ T (q 80) 15 + 0)); rw [Int.add_zero, up2_self _ _ _ rfl]) ?_
    refine KLv (lv' := [(0, .ref (q 80)), (1, .int (iI (y : Int))), (2, .int (iI (zto (sgM T q) (zpd (sgM T q) (y : Int))))), (3, .int (iI 0))]) [2, 3, 1, 0] rfl ?_
    have loop31 : ∀ (nX : Nat) (o : Nat) (f : Nat → Int → Int), zo (sgM T q) - o < nX → (o ≤ zo (sgM T q)) → (PkM T q (y : Int) o f) → Wk pX l eX (rmK 6 0 0) sX mX argsX belowX methX cX (MQ belowX (QcG g (P_X6_pick S q b)) argsX sX 0 0 (ge (gB g))) g 4 0 0 31 [(0, .ref (q 80)), (1, .int (iI (y : Int))), (2, .int (iI (zto (sgM T q) (zpd (sgM T q) (y : Int))))), (3, .int (iI (o : Int)))] [] (uJ (wI T f) (q 80) 15 (za (sgM T q) + alI (sgM T q) (y : Int) o)) := by
      intro nX
      induction nX with
      | zero => intro o f hm; exact absurd hm (Nat.not_lt_zero _)
      | succ nX ih31 =>
        intro o f hm31 ho hP
        refine KRg (fun hR => ?_)
        have hMo := PkM.mp0 hT hCn h00 hP (za (sgM T q) + alI (sgM T q) (y : Int) o)
        have hso := hMo.2.2.2.2.2.2.2.1
        refine KIload_n C dX6_pick_31 rfl 3 rfl ?_
        refine KAload_n C dX6_pick_32 rfl 0 rfl ?_
        refine KGetI (S := uJ (wI T f) (q 80) 15 (za (sgM T q) + alI (sgM T q) (y : Int) o)) C ul_X6 rfl (by decide) 6 6 rfl (by decide) rfl u_fl_RX6_66 (hT.at0 80 7) (v := ((zo (sgM T q) : Nat) : Int)) ((hP.1 _ _ (nMSc0 (S := T) hT 6) (hT.ne 80 83) (hT.ne 80 84)).trans hc6) dX6_pick_33 (fun _ h => h) ?_
        have rb1 := hR.b (q 80) 6 (v := ((zo (sgM T q) : Nat) : Int)) ((hP.1 _ _ (nMSc0 (S := T) hT 6) (hT.ne 80 83) (hT.ne 80 84)).trans hc6)
        refine KIcmp_ge (tgt := 88) C dX6_pick_36 (by decide) ⟨by omega, by omega⟩ ⟨by omega, by omega⟩ (fun c36 => ?_) (fun c36 => ?_)
        · have hoz : o = zo (sgM T q) := by omega
          refine KAload_n C dX6_pick_88 rfl 0 rfl ?_
          refine KDup C dX6_pick_89 rfl ?_
          refine KGetI (S := uJ (wI T f) (q 80) 15 (za (sgM T q) + alI (sgM T q) (y : Int) o)) C ul_X6 rfl (by decide) 14 14 rfl (by decide) rfl u_fl_RX6_137 (hT.at0 80 7) (v := zw (sgM T q)) (hP.1 _ _ (nMSc0 (S := T) hT 14) (hT.ne 80 83) (hT.ne 80 84)) dX6_pick_90 (fun _ h => h) ?_
          have rb2 := hR.b (q 80) 14 (v := zw (sgM T q)) (hP.1 _ _ (nMSc0 (S := T) hT 14) (hT.ne 80 83) (hT.ne 80 84))
          refine KIload_n C dX6_pick_93 rfl 2 rfl ?_
          refine KIadd C dX6_pick_94 ?_
          refine KPutI (S := uJ (wI T f) (q 80) 15 (za (sgM T q) + alI (sgM T q) (y : Int) o)) (ty := .int) (v := (zw (sgM T q)) + (zto (sgM T q) (zpd (sgM T q) (y : Int)))) C ul_X6 rfl (by decide) 14 14 rfl (by decide) rfl u_fl_RX6_137 tyX6 tyX6_ok nmX6 (hT.at0 80 7) ⟨by omega, by omega⟩ (by decide +kernel) rfl rfl rfl dX6_pick_95 (fun _ h => h) ?_
          have hM1 := PkM.mp hT hCn h00 hP (zw (sgM T q) + zto (sgM T q) (zpd (sgM T q) (y : Int))) (za (sgM T q) + alI (sgM T q) (y : Int) o)
          have hs1 := hM1.2.2.2.2.2.2.2.1
          refine KAload_n C dX6_pick_98 rfl 0 rfl ?_
          refine KIload_n C dX6_pick_99 rfl 1 rfl ?_
          refine KCallV (As := [.int (iI (y : Int))]) (b := q 80) (st := []) C (ct_X6_closeUp l g (uI (uJ (wI T f) (q 80) 15 (za (sgM T q) + alI (sgM T q) (y : Int) o)) (q 80) 14 ((zw (sgM T q)) + (zto (sgM T q) (zpd (sgM T q) (y : Int))))) q (y : Int) hT hM1.2.2.2.2.2.2.2.2 (by rw [hs1]; show zo (sgM T q) ≤ 40; omega) (by omega) (by rw [hs1]; exact fun o9 ho9 => by rw [show sI (uI (uJ (wI T f) (q 80) 15 (za (sgM T q) + alI (sgM T q) (y : Int) o)) (q 80) 14 (zw (sgM T q) + zto (sgM T q) (zpd (sgM T q) (y : Int)))) (q 84) (o9 : Int) = mrg (zbt (sgM T q)) (-1) (y : Int) o (o9 : Int) from (up2_ne _ _ _ _ (hT.ne 84 80)).trans (congrFun hP.2.2 _)]; exact mrg_bnd hW _ ho9)) u_ml_RX6_123 u_im_yX6_closeUp u_se_yX6_closeUp u_in_RX6 u_co_yX6_closeUp hd_yX6_closeUp (hT.at0 80 7) (by decide) rfl rfl ⟨Nat.le_of_ble_eq_true rfl, Nat.le_of_ble_eq_true rfl⟩ ⟨Nat.le_of_ble_eq_true rfl, Nat.le_of_ble_eq_true rfl⟩ (Nat.le_of_ble_eq_true rfl) dX6_pick_100 rfl (fun v100 u100 hp100 => ?_)
          obtain ⟨rfl, rfl⟩ := hp100
          refine KSt (st2 := []) rfl ?_
          refine KRg (fun hR => ?_)
          refine KIload_n C dX6_pick_103 rfl 2 rfl ?_
          refine KIret C rfl rfl (by
            subst hoz
            exact hlift _ _ ⟨0, zto (sgM T q) (zpd (sgM T q) b), zpk (sgM T q) b, (by unfold oPk; exact if_pos hba), by rw [hy], by rw [hy]; exact PkM.fin hT hW hCn h00 hP hyl rfl rfl⟩) (by decide) (by decide) dX6_pick_104
        · refine KAload_n C dX6_pick_39 rfl 0 rfl ?_
          refine KGetR (S := uJ (wI T f) (q 80) 15 (za (sgM T q) + alI (sgM T q) (y : Int) o)) C ul_X6 rfl (by decide) 9 9 rfl (by decide) rfl u_fl_RX6_23 (hT.at0 80 7) (b := q 84) (hT.ptr 80 9 84) dX6_pick_40 (fun _ h => h) ?_
          refine KIload_n C dX6_pick_43 rfl 3 rfl ?_
          refine KIald (S := uJ (wI T f) (q 80) 15 (za (sgM T q) + alI (sgM T q) (y : Int) o))  (v := sI T (q 84) (o : Int)) C 40 (hT.at0 84 20) (hT.ln0 84 40) ⟨by omega, by omega⟩ (by omega) ((congrFun hP.2.2 _).trans (mrg_at _ _ _ _)) dX6_pick_44 ?_
          have rb3 := hR.b (q 84) (o : Int) (v := sI T (q 84) (o : Int)) ((congrFun hP.2.2 _).trans (mrg_at _ _ _ _))
          refine KIload_n C dX6_pick_45 rfl 1 rfl ?_
          refine KIcmp_ne (tgt := 82) C dX6_pick_46 (by decide) ⟨by omega, by omega⟩ ⟨by omega, by omega⟩ (fun c46 => ?_) (fun c46 => ?_)
          · refine KSto (S2 := uJ (wI T f) (q 80) 15 (za (sgM T q) + alI (sgM T q) (y : Int) (o + 1))) (by rw [← al_f (z := sgM T q) (b := (y : Int)) (n := o) c46]) ?_
            have hPn := hP.skip c46
            refine KIinc (v := ((o + 1 : Nat) : Int)) (lv' := [(3, .int (iI ((o + 1 : Nat) : Int))), (0, .ref (q 80)), (1, .int (iI (y : Int))), (2, .int (iI (zto (sgM T q) (zpd (sgM T q) (y : Int)))))]) C dX6_pick_82 3 rfl (by omega) (by decide) rfl ?_
            refine KGoto (tgt := 31) C dX6_pick_85 (by decide) ?_
            refine KLv (lv' := [(0, .ref (q 80)), (1, .int (iI (y : Int))), (2, .int (iI (zto (sgM T q) (zpd (sgM T q) (y : Int))))), (3, .int (iI ((o + 1 : Nat) : Int)))]) [1, 2, 3, 0] rfl ?_
            exact ih31 (o + 1) _ (by omega) (by omega) hPn
          · refine KAload_n C dX6_pick_49 rfl 0 rfl ?_
            refine KDup C dX6_pick_50 rfl ?_
            refine KGetJ (S := uJ (wI T f) (q 80) 15 (za (sgM T q) + alI (sgM T q) (y : Int) o)) C ul_X6 rfl (by decide) 15 15 rfl (by decide) rfl u_fl_RX6_133 (hT.at0 80 7) (v := za (sgM T q) + alI (sgM T q) (y : Int) o) (up2_same _ _ _ _) dX6_pick_51 (fun _ h => h) ?_
            refine KAload_n C dX6_pick_54 rfl 0 rfl ?_
            refine KAload_n C dX6_pick_55 rfl 0 rfl ?_
            refine KIload_n C dX6_pick_56 rfl 3 rfl ?_
            refine KCallV (As := [.int (iI (o : Int))]) (b := q 80) (st := [.ref (q 80), .long (lI (za (sgM T q) + alI (sgM T q) (y : Int) o)), .ref (q 80)]) C (ct_X6_wanted l g (uJ (wI T f) (q 80) 15 (za (sgM T q) + alI (sgM T q) (y : Int) o)) q o hT (by rw [hso]; exact hW.wlq _ _ _ _) (by rw [hso]; show o < zo (sgM T q); omega)) u_ml_RX6_111 u_im_yX6_wanted u_se_yX6_wanted u_in_RX6 u_co_yX6_wanted hd_yX6_wanted (hT.at0 80 7) (by decide) rfl rfl ⟨Nat.le_of_ble_eq_true rfl, Nat.le_of_ble_eq_true rfl⟩ ⟨Nat.le_of_ble_eq_true rfl, Nat.le_of_ble_eq_true rfl⟩ (Nat.le_of_ble_eq_true rfl) dX6_pick_57 rfl (fun v57 u57 hp57 => ?_)
            obtain ⟨rfl, rfl⟩ := hp57
            refine KSt (st2 := [.int (iI ((zW (sgM (uJ (wI T f) (q 80) 15 (za (sgM T q) + alI (sgM T q) (y : Int) o)) q) o : Nat) : Int)), .ref (q 80), .long (lI (za (sgM T q) + alI (sgM T q) (y : Int) o)), .ref (q 80)]) rfl ?_
            refine KRg (fun hR => ?_)
            refine KTop (congrArg iI (show ((zW (sgM (uJ (wI T f) (q 80) 15 (za (sgM T q) + alI (sgM T q) (y : Int) o)) q) o : Nat) : Int) = ((zW (sgM T q) o : Nat) : Int) from (by rw [hso]; rfl))) ?_
            refine KCallV (As := [.int (iI ((zW (sgM T q) o : Nat) : Int))]) (b := q 80) (st := [.long (lI (za (sgM T q) + alI (sgM T q) (y : Int) o)), .ref (q 80)]) C (ct_X6_length l g (uJ (wI T f) (q 80) 15 (za (sgM T q) + alI (sgM T q) (y : Int) o)) q (zW (sgM T q) o) hT (hCm.of (hP.1 _ _ (nMSc0 (S := T) hT 1) (hT.ne 80 83) (hT.ne 80 84)) (hP.1 _ _ (nMSc0 (S := T) hT 2) (hT.ne 80 83) (hT.ne 80 84)) (hP.1 _ _ (nMSc0 (S := T) hT 3) (hT.ne 80 83) (hT.ne 80 84))) (by show okM (zN (sgM (uJ (wI T f) (q 80) 15 (za (sgM T q) + alI (sgM T q) (y : Int) o)) q)) (zP (sgM (uJ (wI T f) (q 80) 15 (za (sgM T q) + alI (sgM T q) (y : Int) o)) q)) _; rw [hso]; exact hW.okW (by omega))) u_ml_RX6_114 u_im_yX6_length u_se_yX6_length u_in_RX6 u_co_yX6_length hd_yX6_length (hT.at0 80 7) (by decide) rfl rfl ⟨Nat.le_of_ble_eq_true rfl, Nat.le_of_ble_eq_true rfl⟩ ⟨Nat.le_of_ble_eq_true rfl, Nat.le_of_ble_eq_true rfl⟩ (Nat.le_of_ble_eq_true rfl) dX6_pick_60 rfl (fun v60 u60 hp60 => ?_)
            obtain ⟨rfl, f60, rfl, hK60, hs60⟩ := hp60
            refine KSt (st2 := [.int (iI (tour (sI (uJ (wI T f) (q 80) 15 (za (sgM T q) + alI (sgM T q) (y : Int) o)) (q 80) 2) (sI (uJ (wI T f) (q 80) 15 (za (sgM T q) + alI (sgM T q) (y : Int) o)) (q 80) 3) (sI (uJ (wI T f) (q 80) 15 (za (sgM T q) + alI (sgM T q) (y : Int) o)) (q 81)) (zW (sgM T q) o))), .long (lI (za (sgM T q) + alI (sgM T q) (y : Int) o)), .ref (q 80)]) rfl ?_
            refine KRg (fun hR => ?_)
            refine KTop (congrArg iI (show tour (sI (uJ (wI T f) (q 80) 15 (za (sgM T q) + alI (sgM T q) (y : Int) o)) (q 80) 2) (sI (uJ (wI T f) (q 80) 15 (za (sgM T q) + alI (sgM T q) (y : Int) o)) (q 80) 3) (sI (uJ (wI T f) (q 80) 15 (za (sgM T q) + alI (sgM T q) (y : Int) o)) (q 81)) (zW (sgM T q) o) = zto (sgM T q) (zW (sgM T q) o) from (by show zto (sgM (uJ (wI T f) (q 80) 15 (za (sgM T q) + alI (sgM T q) (y : Int) o)) q) _ = _; rw [hso]; rfl))) ?_
            have hP60 := PkM.kept hT hP rfl hK60
            have hlb := zto_b hW (hW.okW (o := o) (by omega))
            refine KI2l C dX6_pick_63 ⟨by omega, by omega⟩ ?_
            refine KLadd (v := lI (za (sgM T q) + alI (sgM T q) (y : Int) (o + 1))) C dX6_pick_64 ((lI_add _ _).trans (congrArg lI (by rw [Int.add_assoc, al_t (z := sgM T q) (b := (y : Int)) (n := o) c46]))) ?_
            refine KPutJ (S := wI (uJ (wI T f) (q 80) 15 (za (sgM T q) + alI (sgM T q) (y : Int) o)) f60) (ty := .long) C ul_X6 rfl (by decide) 15 15 rfl (by decide) rfl u_fl_RX6_133 tyX6 tyX6_ok nmX6 (hT.at0 80 7) (by decide +kernel) rfl rfl rfl dX6_pick_65 (fun _ h => h) ?_
            refine KSto (S2 := uJ (wI T f60) (q 80) 15 (za (sgM T q) + alI (sgM T q) (y : Int) (o + 1))) (by show wJ (wI T f60) (up2 (up2 (sJ T) (q 80) 15 _) (q 80) 15 _) = _; rw [up2_up2]) ?_
            refine KAload_n C dX6_pick_68 rfl 0 rfl ?_
            refine KGetR (S := uJ (wI T f60) (q 80) 15 (za (sgM T q) + alI (sgM T q) (y : Int) (o + 1))) C ul_X6 rfl (by decide) 8 8 rfl (by decide) rfl u_fl_RX6_20 (hT.at0 80 7) (b := q 83) (hT.ptr 80 8 83) dX6_pick_69 (fun _ h => h) ?_
            refine KIload_n C dX6_pick_72 rfl 3 rfl ?_
            refine KIconst C dX6_pick_73 ?_
            refine KIast (S := uJ (wI T f60) (q 80) 15 (za (sgM T q) + alI (sgM T q) (y : Int) (o + 1))) C 40 (hT.at0 83 20) (hT.ln0 83 40) ⟨by omega, by omega⟩ (by omega) ⟨by omega, by omega⟩ dX6_pick_74 ?_
            refine KAload_n C dX6_pick_75 rfl 0 rfl ?_
            refine KGetR (S := uI (uJ (wI T f60) (q 80) 15 (za (sgM T q) + alI (sgM T q) (y : Int) (o + 1))) (q 83) (o : Int) 2) C ul_X6 rfl (by decide) 9 9 rfl (by decide) rfl u_fl_RX6_23 (hT.at0 80 7) (b := q 84) (hT.ptr 80 9 84) dX6_pick_76 (fun _ h => h) ?_
            refine KIload_n C dX6_pick_79 rfl 3 rfl ?_
            refine KIconst C dX6_pick_80 ?_
            refine KIast (S := uI (uJ (wI T f60) (q 80) 15 (za (sgM T q) + alI (sgM T q) (y : Int) (o + 1))) (q 83) (o : Int) 2) C 40 (hT.at0 84 20) (hT.ln0 84 40) ⟨by omega, by omega⟩ (by omega) ⟨by omega, by omega⟩ dX6_pick_81 ?_
            refine KSto (S2 := uJ (wI T (up2 (up2 f60 (q 83) (o : Int) 2) (q 84) (o : Int) (-1))) (q 80) 15 (za (sgM T q) + alI (sgM T q) (y : Int) (o + 1))) rfl ?_
            have hPn := hP60.put hT c46
            refine KIinc (v := ((o + 1 : Nat) : Int)) (lv' := [(3, .int (iI ((o + 1 : Nat) : Int))), (0, .ref (q 80)), (1, .int (iI (y : Int))), (2, .int (iI (zto (sgM T q) (zpd (sgM T q) (y : Int)))))]) C dX6_pick_82 3 rfl (by omega) (by decide) rfl ?_
            refine KGoto (tgt := 31) C dX6_pick_85 (by decide) ?_
            refine KLv (lv' := [(0, .ref (q 80)), (1, .int (iI (y : Int))), (2, .int (iI (zto (sgM T q) (zpd (sgM T q) (y : Int))))), (3, .int (iI ((o + 1 : Nat) : Int)))]) [1, 2, 3, 0] rfl ?_
            exact ih31 (o + 1) _ (by omega) (by omega) hPn
    exact loop31 _ 0 f25 (Nat.lt_succ_self _) (by omega) (PkM.init hT hK25)
  · refine KSt (st2 := [.int (iI 0)]) rfl ?_
    have hba : ¬ isBa (sgM T q) b := fun h9 => b7 ⟨h9.1, by have := h9.2; omega⟩
    refine KIf_ne (tgt := 19) C dX6_pick_10 (by decide) ⟨by omega, by omega⟩ (fun h => absurd h (by decide)) (fun _ => ?_)
    refine KAload_n C dX6_pick_13 rfl 0 rfl ?_
    refine KIconst C dX6_pick_14 ?_
    refine KCallV (As := [.int (iI 1)]) (b := q 80) (st := []) C (ct_X6_fails l g T q 1 hT (by omega)) u_ml_RX6_94 u_im_yX6_fails u_se_yX6_fails u_in_RX6 u_co_yX6_fails hd_yX6_fails (hT.at0 80 7) (by decide) rfl rfl ⟨Nat.le_of_ble_eq_true rfl, Nat.le_of_ble_eq_true rfl⟩ ⟨Nat.le_of_ble_eq_true rfl, Nat.le_of_ble_eq_true rfl⟩ (Nat.le_of_ble_eq_true rfl) dX6_pick_15 rfl (fun v15 u15 hp15 => ?_)
    obtain ⟨rfl, rfl⟩ := hp15
    refine KSt (st2 := [.int (iI 0)]) rfl ?_
    refine KRg (fun hR => ?_)
    refine KIret C rfl rfl (by
      exact hlift _ _ ⟨1, 0, sgM T q, (by unfold oPk; exact if_neg hba), rfl, MP.thr hT hCn 1⟩) (by decide) (by decide) dX6_pick_18
