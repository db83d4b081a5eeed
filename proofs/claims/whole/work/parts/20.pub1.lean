def P_X6_thrown (S : Sto) (q : Nat → Nat) : Option Value → Sto → Prop := fun v u => v = some (.int (iI (sI S (q 80) 0))) ∧ S = u
set_option maxRecDepth 100000 in
set_option maxHeartbeats 4000000 in
theorem ct_X6_thrown (l : Launch) (g : GG) (S : Sto) (q : Nat → Nat) (hT : Top S q) : MetS l g yX6_thrown cX6_thrown 1 (some FieldType.int) 1 0 0 [.ref (q 80)] S (P_X6_thrown S q) := by
  refine MetS.of (own := RX6) (lv := [(0, .ref (q 80))]) (by decide) rfl (Nat.le_of_ble_eq_true rfl) rfl ?_
  intro pX eX sX mX argsX belowX methX cX C hin
  refine KRg (fun hR => ?_)
  refine KAload_n C dX6_thrown_0 rfl 0 rfl ?_
  refine KGetI C ul_X6 rfl (by decide) 0 0 rfl (by decide) rfl u_fl_RX6_59 (hT.at0 80 7) (v := sI S (q 80) 0) rfl dX6_thrown_1 (fun _ h => h) ?_
  have rb1 := hR.b (q 80) 0 (v := sI S (q 80) 0) rfl
  refine KIret C rfl rfl (by
    exact ⟨rfl, rfl⟩) (by decide) (by decide) dX6_thrown_4
def P_X6_orders (S : Sto) (q : Nat → Nat) : Option Value → Sto → Prop := fun v u => ∃ c r z', oOs (sgM S q) = (c, r, z') ∧ v = some (.int (iI r)) ∧ MP S q u c z'
set_option maxRecDepth 100000 in
set_option maxHeartbeats 4000000 in
theorem ct_X6_orders (l : Launch) (g : GG) (S : Sto) (q : Nat → Nat) (hT : Top S q) (hW : Wf (sgM S q)) (hCn : Cn S q) : MetS l g yX6_orders cX6_orders 1 (some FieldType.int) 1 0 0 [.ref (q 80)] S (P_X6_orders S q) := by
  refine MetS.of (own := RX6) (lv := [(0, .ref (q 80))]) (by decide) rfl (Nat.le_of_ble_eq_true rfl) rfl ?_
  intro pX eX sX mX argsX belowX methX cX C hin
  refine KRg (fun hR => ?_)
  refine KAload_n C dX6_orders_0 rfl 0 rfl ?_
  refine KIconst C dX6_orders_1 ?_
  obtain ⟨T, hTT, hT9, hW, hCn, h00, hz, hM⟩ := MP.start hT hW hCn
  refine KPutI (ty := .int) (v := 0) C ul_X6 rfl (by decide) 0 0 rfl (by decide) rfl u_fl_RX6_59 tyX6 tyX6_ok nmX6 (hT.at0 80 7) ⟨by omega, by omega⟩ (by decide +kernel) rfl rfl rfl dX6_orders_2 (fun _ h => h) ?_
  refine KSto (S2 := T) hTT.symm ?_
  have hT := hT9
  have hlift : ∀ v u, P_X6_orders T q v u → P_X6_orders S q v u := fun v u ⟨c, r, z', h1, h2, h3⟩ => ⟨c, r, z', hz ▸ h1, h2, hM.trans h3⟩
  refine KRg (fun hR => ?_)
  obtain ⟨hc6, hc13⟩ := id hCn
  have hCm : CfM T q := hW.cf
  obtain ⟨hA1, hA2, hN1, hN2, hG1, hG2⟩ := id hCm
  obtain ⟨ho40, hbo⟩ := hW.2.1
  have ezA : zA (sgM T q) = sI T (q 80) 1 := rfl
  have ezN : zN (sgM T q) = sI T (q 80) 2 := rfl
  refine KAload_n C dX6_orders_5 rfl 0 rfl ?_
  refine KGetI (S := T) C ul_X6 rfl (by decide) 6 6 rfl (by decide) rfl u_fl_RX6_66 (hT.at0 80 7) (v := ((zo (sgM T q) : Nat) : Int)) hc6 dX6_orders_6 (fun _ h => h) ?_
  have rb1 := hR.b (q 80) 6 (v := ((zo (sgM T q) : Nat) : Int)) hc6
  refine KIret C rfl rfl (by
    first | exact hlift _ _ ⟨0, _, _, (by unfold oOs; (repeat' split) <;> first | rfl | omega), rfl, (MP.refl0 hCn h00)⟩ | exact hlift _ _ ⟨1, _, _, (by unfold oOs; (repeat' split) <;> first | rfl | omega), rfl, (MP.thr hT hCn 1)⟩ | exact hlift _ _ ⟨2, _, _, (by unfold oOs; (repeat' split) <;> first | rfl | omega), rfl, (MP.thr hT hCn 2)⟩ | exact hlift _ _ ⟨3, _, _, (by unfold oOs; (repeat' split) <;> first | rfl | omega), rfl, (MP.thr hT hCn 3)⟩) (by decide) (by decide) dX6_orders_9
def P_X6_batches (S : Sto) (q : Nat → Nat) : Option Value → Sto → Prop := fun v u => ∃ c r z', oBs (sgM S q) = (c, r, z') ∧ v = some (.int (iI r)) ∧ MP S q u c z'
set_option maxRecDepth 100000 in
set_option maxHeartbeats 4000000 in
theorem ct_X6_batches (l : Launch) (g : GG) (S : Sto) (q : Nat → Nat) (hT : Top S q) (hW : Wf (sgM S q)) (hCn : Cn S q) : MetS l g yX6_batches cX6_batches 1 (some FieldType.int) 1 0 0 [.ref (q 80)] S (P_X6_batches S q) := by
  refine MetS.of (own := RX6) (lv := [(0, .ref (q 80))]) (by decide) rfl (Nat.le_of_ble_eq_true rfl) rfl ?_
  intro pX eX sX mX argsX belowX methX cX C hin
  refine KRg (fun hR => ?_)
  refine KAload_n C dX6_batches_0 rfl 0 rfl ?_
  refine KIconst C dX6_batches_1 ?_
  obtain ⟨T, hTT, hT9, hW, hCn, h00, hz, hM⟩ := MP.start hT hW hCn
  refine KPutI (ty := .int) (v := 0) C ul_X6 rfl (by decide) 0 0 rfl (by decide) rfl u_fl_RX6_59 tyX6 tyX6_ok nmX6 (hT.at0 80 7) ⟨by omega, by omega⟩ (by decide +kernel) rfl rfl rfl dX6_batches_2 (fun _ h => h) ?_
  refine KSto (S2 := T) hTT.symm ?_
  have hT := hT9
  have hlift : ∀ v u, P_X6_batches T q v u → P_X6_batches S q v u := fun v u ⟨c, r, z', h1, h2, h3⟩ => ⟨c, r, z', hz ▸ h1, h2, hM.trans h3⟩
  refine KRg (fun hR => ?_)
  obtain ⟨hc6, hc13⟩ := id hCn
  have hCm : CfM T q := hW.cf
  obtain ⟨hA1, hA2, hN1, hN2, hG1, hG2⟩ := id hCm
  obtain ⟨ho40, hbo⟩ := hW.2.1
  have ezA : zA (sgM T q) = sI T (q 80) 1 := rfl
  have ezN : zN (sgM T q) = sI T (q 80) 2 := rfl
  refine KAload_n C dX6_batches_5 rfl 0 rfl ?_
  refine KGetI (S := T) C ul_X6 rfl (by decide) 13 13 rfl (by decide) rfl u_fl_RX6_69 (hT.at0 80 7) (v := ((zb (sgM T q) : Nat) : Int)) hc13 dX6_batches_6 (fun _ h => h) ?_
  have rb1 := hR.b (q 80) 13 (v := ((zb (sgM T q) : Nat) : Int)) hc13
  refine KIret C rfl rfl (by
    first | exact hlift _ _ ⟨0, _, _, (by unfold oBs; (repeat' split) <;> first | rfl | omega), rfl, (MP.refl0 hCn h00)⟩ | exact hlift _ _ ⟨1, _, _, (by unfold oBs; (repeat' split) <;> first | rfl | omega), rfl, (MP.thr hT hCn 1)⟩ | exact hlift _ _ ⟨2, _, _, (by unfold oBs; (repeat' split) <;> first | rfl | omega), rfl, (MP.thr hT hCn 2)⟩ | exact hlift _ _ ⟨3, _, _, (by unfold oBs; (repeat' split) <;> first | rfl | omega), rfl, (MP.thr hT hCn 3)⟩) (by decide) (by decide) dX6_batches_9
def P_X6_walked (S : Sto) (q : Nat → Nat) : Option Value → Sto → Prop := fun v u => ∃ c r z', oWk (sgM S q) = (c, r, z') ∧ v = some (.int (iI r)) ∧ MP S q u c z'
set_option maxRecDepth 100000 in
set_option maxHeartbeats 4000000 in
theorem ct_X6_walked (l : Launch) (g : GG) (S : Sto) (q : Nat → Nat) (hT : Top S q) (hW : Wf (sgM S q)) (hCn : Cn S q) : MetS l g yX6_walked cX6_walked 1 (some FieldType.int) 1 0 0 [.ref (q 80)] S (P_X6_walked S q) := by
  refine MetS.of (own := RX6) (lv := [(0, .ref (q 80))]) (by decide) rfl (Nat.le_of_ble_eq_true rfl) rfl ?_
  intro pX eX sX mX argsX belowX methX cX C hin
  refine KRg (fun hR => ?_)
  refine KAload_n C dX6_walked_0 rfl 0 rfl ?_
  refine KIconst C dX6_walked_1 ?_
  obtain ⟨T, hTT, hT9, hW, hCn, h00, hz, hM⟩ := MP.start hT hW hCn
  refine KPutI (ty := .int) (v := 0) C ul_X6 rfl (by decide) 0 0 rfl (by decide) rfl u_fl_RX6_59 tyX6 tyX6_ok nmX6 (hT.at0 80 7) ⟨by omega, by omega⟩ (by decide +kernel) rfl rfl rfl dX6_walked_2 (fun _ h => h) ?_
  refine KSto (S2 := T) hTT.symm ?_
  have hT := hT9
  have hlift : ∀ v u, P_X6_walked T q v u → P_X6_walked S q v u := fun v u ⟨c, r, z', h1, h2, h3⟩ => ⟨c, r, z', hz ▸ h1, h2, hM.trans h3⟩
  refine KRg (fun hR => ?_)
  obtain ⟨hc6, hc13⟩ := id hCn
  have hCm : CfM T q := hW.cf
  obtain ⟨hA1, hA2, hN1, hN2, hG1, hG2⟩ := id hCm
  obtain ⟨ho40, hbo⟩ := hW.2.1
  have ezA : zA (sgM T q) = sI T (q 80) 1 := rfl
  have ezN : zN (sgM T q) = sI T (q 80) 2 := rfl
  refine KAload_n C dX6_walked_5 rfl 0 rfl ?_
  refine KGetI (S := T) C ul_X6 rfl (by decide) 14 14 rfl (by decide) rfl u_fl_RX6_137 (hT.at0 80 7) (v := sI T (q 80) 14) rfl dX6_walked_6 (fun _ h => h) ?_
  have rb1 := hR.b (q 80) 14 (v := sI T (q 80) 14) rfl
  refine KIret C rfl rfl (by
    first | exact hlift _ _ ⟨0, _, _, (by unfold oWk; (repeat' split) <;> first | rfl | omega), rfl, (MP.refl0 hCn h00)⟩ | exact hlift _ _ ⟨1, _, _, (by unfold oWk; (repeat' split) <;> first | rfl | omega), rfl, (MP.thr hT hCn 1)⟩ | exact hlift _ _ ⟨2, _, _, (by unfold oWk; (repeat' split) <;> first | rfl | omega), rfl, (MP.thr hT hCn 2)⟩ | exact hlift _ _ ⟨3, _, _, (by unfold oWk; (repeat' split) <;> first | rfl | omega), rfl, (MP.thr hT hCn 3)⟩) (by decide) (by decide) dX6_walked_9
def P_X6_placeOf (S : Sto) (q : Nat → Nat) (p : Int) : Option Value → Sto → Prop := fun v u => ∃ c r z', oPl (sgM S q) p = (c, r, z') ∧ v = some (.int (iI r)) ∧ MP S q u c z'
set_option maxRecDepth 100000 in
set_option maxHeartbeats 4000000 in
theorem ct_X6_placeOf (l : Launch) (g : GG) (S : Sto) (q : Nat → Nat) (p : Int) (hT : Top S q) (hW : Wf (sgM S q)) (hCn : Cn S q) (hip : inR p) : MetS l g yX6_placeOf cX6_placeOf 2 (some FieldType.int) 3 0 0 [.ref (q 80), .int (iI p)] S (P_X6_placeOf S q p) := by
  refine MetS.of (own := RX6) (lv := [(0, .ref (q 80)), (1, .int (iI p))]) (by decide) rfl (Nat.le_of_ble_eq_true rfl) rfl ?_
  intro pX eX sX mX argsX belowX methX cX C hin
  refine KRg (fun hR => ?_)
  obtain ⟨p1, p2⟩ := id hip
  refine KAload_n C dX6_placeOf_0 rfl 0 rfl ?_
  refine KIconst C dX6_placeOf_1 ?_
  obtain ⟨T, hTT, hT9, hW, hCn, h00, hz, hM⟩ := MP.start hT hW hCn
  refine KPutI (ty := .int) (v := 0) C ul_X6 rfl (by decide) 0 0 rfl (by decide) rfl u_fl_RX6_59 tyX6 tyX6_ok nmX6 (hT.at0 80 7) ⟨by omega, by omega⟩ (by decide +kernel) rfl rfl rfl dX6_placeOf_2 (fun _ h => h) ?_
  refine KSto (S2 := T) hTT.symm ?_
  have hT := hT9
  have hlift : ∀ v u, P_X6_placeOf T q p v u → P_X6_placeOf S q p v u := fun v u ⟨c, r, z', h1, h2, h3⟩ => ⟨c, r, z', hz ▸ h1, h2, hM.trans h3⟩
  refine KRg (fun hR => ?_)
  obtain ⟨hc6, hc13⟩ := id hCn
  have hCm : CfM T q := hW.cf
  obtain ⟨hA1, hA2, hN1, hN2, hG1, hG2⟩ := id hCm
  obtain ⟨ho40, hbo⟩ := hW.2.1
  have ezA : zA (sgM T q) = sI T (q 80) 1 := rfl
  have ezN : zN (sgM T q) = sI T (q 80) 2 := rfl
  refine KIload_n C dX6_placeOf_5 rfl 1 rfl ?_
  refine KCallS (As := [.int (iI p)]) (st := []) C (ct_X6_isProduct l g T p (⟨by omega, by omega⟩)) u_ml_RX6_90 u_st_yX6_isProduct u_in_RX6 u_co_yX6_isProduct hd_yX6_isProduct ⟨Nat.le_of_ble_eq_true rfl, Nat.le_of_ble_eq_true rfl⟩ ⟨Nat.le_of_ble_eq_true rfl, Nat.le_of_ble_eq_true rfl⟩ (Nat.le_of_ble_eq_true rfl) dX6_placeOf_6 rfl (fun v6 u6 hp6 => ?_)
  obtain ⟨⟨b6, rfl⟩ | ⟨b6, rfl⟩, rfl⟩ := hp6
  · refine KSt (st2 := [.int (iI 1)]) rfl ?_
    refine KIf_eq (tgt := 21) C dX6_placeOf_9 (by decide) ⟨by omega, by omega⟩ (fun h => absurd h (by decide)) (fun _ => ?_)
    refine KAload_n C dX6_placeOf_12 rfl 0 rfl ?_
    refine KGetR (S := T) C ul_X6 rfl (by decide) 5 5 rfl (by decide) rfl u_fl_RX6_13 (hT.at0 80 7) (b := q 81) (hT.ptr 80 5 81) dX6_placeOf_13 (fun _ h => h) ?_
    refine KIload_n C dX6_placeOf_16 rfl 1 rfl ?_
    refine KIald (S := T)  (v := sI T (q 81) p) C 20 (hT.at0 81 20) (hT.ln0 81 20) ⟨by omega, by omega⟩ (by omega) rfl dX6_placeOf_17 ?_
    have rb1 := hR.b (q 81) p (v := sI T (q 81) p) rfl
    refine KGoto (tgt := 26) C dX6_placeOf_18 (by decide) ?_
    refine KIret C rfl rfl (by
      first | exact hlift _ _ ⟨0, _, _, (by unfold oPl; (repeat' split) <;> first | rfl | omega), rfl, (MP.refl0 hCn h00)⟩ | exact hlift _ _ ⟨1, _, _, (by unfold oPl; (repeat' split) <;> first | rfl | omega), rfl, (MP.thr hT hCn 1)⟩ | exact hlift _ _ ⟨2, _, _, (by unfold oPl; (repeat' split) <;> first | rfl | omega), rfl, (MP.thr hT hCn 2)⟩ | exact hlift _ _ ⟨3, _, _, (by unfold oPl; (repeat' split) <;> first | rfl | omega), rfl, (MP.thr hT hCn 3)⟩) (by decide) (by decide) dX6_placeOf_26
  · refine KSt (st2 := [.int (iI 0)]) rfl ?_
    refine KIf_eq (tgt := 21) C dX6_placeOf_9 (by decide) ⟨by omega, by omega⟩ (fun _ => ?_) (fun h => absurd h (by decide))
    refine KAload_n C dX6_placeOf_21 rfl 0 rfl ?_
    refine KIconst C dX6_placeOf_22 ?_
    refine KCallV (As := [.int (iI 1)]) (b := q 80) (st := []) C (ct_X6_fails l g T q 1 hT (by omega)) u_ml_RX6_94 u_im_yX6_fails u_se_yX6_fails u_in_RX6 u_co_yX6_fails hd_yX6_fails (hT.at0 80 7) (by decide) rfl rfl ⟨Nat.le_of_ble_eq_true rfl, Nat.le_of_ble_eq_true rfl⟩ ⟨Nat.le_of_ble_eq_true rfl, Nat.le_of_ble_eq_true rfl⟩ (Nat.le_of_ble_eq_true rfl) dX6_placeOf_23 rfl (fun v23 u23 hp23 => ?_)
    obtain ⟨rfl, rfl⟩ := hp23
    refine KSt (st2 := [.int (iI 0)]) rfl ?_
    refine KRg (fun hR => ?_)
    refine KIret C rfl rfl (by
      first | exact hlift _ _ ⟨0, _, _, (by unfold oPl; (repeat' split) <;> first | rfl | omega), rfl, (MP.refl0 hCn h00)⟩ | exact hlift _ _ ⟨1, _, _, (by unfold oPl; (repeat' split) <;> first | rfl | omega), rfl, (MP.thr hT hCn 1)⟩ | exact hlift _ _ ⟨2, _, _, (by unfold oPl; (repeat' split) <;> first | rfl | omega), rfl, (MP.thr hT hCn 2)⟩ | exact hlift _ _ ⟨3, _, _, (by unfold oPl; (repeat' split) <;> first | rfl | omega), rfl, (MP.thr hT hCn 3)⟩) (by decide) (by decide) dX6_placeOf_26
def P_X6_stateOf (S : Sto) (q : Nat → Nat) (o : Int) : Option Value → Sto → Prop := fun v u => ∃ c r z', oSt (sgM S q) o = (c, r, z') ∧ v = some (.int (iI r)) ∧ MP S q u c z'
set_option maxRecDepth 100000 in
set_option maxHeartbeats 4000000 in
theorem ct_X6_stateOf (l : Launch) (g : GG) (S : Sto) (q : Nat → Nat) (o : Int) (hT : Top S q) (hW : Wf (sgM S q)) (hCn : Cn S q) (hio : inR o) : MetS l g yX6_stateOf cX6_stateOf 2 (some FieldType.int) 3 0 0 [.ref (q 80), .int (iI o)] S (P_X6_stateOf S q o) := by
  refine MetS.of (own := RX6) (lv := [(0, .ref (q 80)), (1, .int (iI o))]) (by decide) rfl (Nat.le_of_ble_eq_true rfl) rfl ?_
  intro pX eX sX mX argsX belowX methX cX C hin
  refine KRg (fun hR => ?_)
  obtain ⟨o1, o2⟩ := id hio
  refine KAload_n C dX6_stateOf_0 rfl 0 rfl ?_
  refine KIconst C dX6_stateOf_1 ?_
  obtain ⟨T, hTT, hT9, hW, hCn, h00, hz, hM⟩ := MP.start hT hW hCn
  refine KPutI (ty := .int) (v := 0) C ul_X6 rfl (by decide) 0 0 rfl (by decide) rfl u_fl_RX6_59 tyX6 tyX6_ok nmX6 (hT.at0 80 7) ⟨by omega, by omega⟩ (by decide +kernel) rfl rfl rfl dX6_stateOf_2 (fun _ h => h) ?_
  refine KSto (S2 := T) hTT.symm ?_
  have hT := hT9
  have hlift : ∀ v u, P_X6_stateOf T q o v u → P_X6_stateOf S q o v u := fun v u ⟨c, r, z', h1, h2, h3⟩ => ⟨c, r, z', hz ▸ h1, h2, hM.trans h3⟩
  refine KRg (fun hR => ?_)
  obtain ⟨hc6, hc13⟩ := id hCn
  have hCm : CfM T q := hW.cf
  obtain ⟨hA1, hA2, hN1, hN2, hG1, hG2⟩ := id hCm
  obtain ⟨ho40, hbo⟩ := hW.2.1
  have ezA : zA (sgM T q) = sI T (q 80) 1 := rfl
  have ezN : zN (sgM T q) = sI T (q 80) 2 := rfl
  refine KAload_n C dX6_stateOf_5 rfl 0 rfl ?_
  refine KIload_n C dX6_stateOf_6 rfl 1 rfl ?_
  refine KCallV (As := [.int (iI o)]) (b := q 80) (st := []) C (ct_X6_isOrder l g T q o hT (⟨by omega, by omega⟩) (by omega)) u_ml_RX6_108 u_im_yX6_isOrder u_se_yX6_isOrder u_in_RX6 u_co_yX6_isOrder hd_yX6_isOrder (hT.at0 80 7) (by decide) rfl rfl ⟨Nat.le_of_ble_eq_true rfl, Nat.le_of_ble_eq_true rfl⟩ ⟨Nat.le_of_ble_eq_true rfl, Nat.le_of_ble_eq_true rfl⟩ (Nat.le_of_ble_eq_true rfl) dX6_stateOf_7 rfl (fun v7 u7 hp7 => ?_)
  obtain ⟨⟨b7, rfl⟩ | ⟨b7, rfl⟩, rfl⟩ := hp7
  · refine KSt (st2 := [.int (iI 1)]) rfl ?_
    refine KIf_eq (tgt := 22) C dX6_stateOf_10 (by decide) ⟨by omega, by omega⟩ (fun h => absurd h (by decide)) (fun _ => ?_)
    refine KAload_n C dX6_stateOf_13 rfl 0 rfl ?_
    refine KGetR (S := T) C ul_X6 rfl (by decide) 8 8 rfl (by decide) rfl u_fl_RX6_20 (hT.at0 80 7) (b := q 83) (hT.ptr 80 8 83) dX6_stateOf_14 (fun _ h => h) ?_
    refine KIload_n C dX6_stateOf_17 rfl 1 rfl ?_
    refine KIald (S := T)  (v := sI T (q 83) o) C 40 (hT.at0 83 20) (hT.ln0 83 40) ⟨by omega, by omega⟩ (by omega) rfl dX6_stateOf_18 ?_
    have rb1 := hR.b (q 83) o (v := sI T (q 83) o) rfl
    refine KGoto (tgt := 27) C dX6_stateOf_19 (by decide) ?_
    refine KIret C rfl rfl (by
      first | exact hlift _ _ ⟨0, _, _, (by unfold oSt; (repeat' split) <;> first | rfl | omega), rfl, (MP.refl0 hCn h00)⟩ | exact hlift _ _ ⟨1, _, _, (by unfold oSt; (repeat' split) <;> first | rfl | omega), rfl, (MP.thr hT hCn 1)⟩ | exact hlift _ _ ⟨2, _, _, (by unfold oSt; (repeat' split) <;> first | rfl | omega), rfl, (MP.thr hT hCn 2)⟩ | exact hlift _ _ ⟨3, _, _, (by unfold oSt; (repeat' split) <;> first | rfl | omega), rfl, (MP.thr hT hCn 3)⟩) (by decide) (by decide) dX6_stateOf_27
  · refine KSt (st2 := [.int (iI 0)]) rfl ?_
    refine KIf_eq (tgt := 22) C dX6_stateOf_10 (by decide) ⟨by omega, by omega⟩ (fun _ => ?_) (fun h => absurd h (by decide))
    refine KAload_n C dX6_stateOf_22 rfl 0 rfl ?_
    refine KIconst C dX6_stateOf_23 ?_
    refine KCallV (As := [.int (iI 1)]) (b := q 80) (st := []) C (ct_X6_fails l g T q 1 hT (by omega)) u_ml_RX6_94 u_im_yX6_fails u_se_yX6_fails u_in_RX6 u_co_yX6_fails hd_yX6_fails (hT.at0 80 7) (by decide) rfl rfl ⟨Nat.le_of_ble_eq_true rfl, Nat.le_of_ble_eq_true rfl⟩ ⟨Nat.le_of_ble_eq_true rfl, Nat.le_of_ble_eq_true rfl⟩ (Nat.le_of_ble_eq_true rfl) dX6_stateOf_24 rfl (fun v24 u24 hp24 => ?_)
    obtain ⟨rfl, rfl⟩ := hp24
    refine KSt (st2 := [.int (iI 0)]) rfl ?_
    refine KRg (fun hR => ?_)
    refine KIret C rfl rfl (by
      first | exact hlift _ _ ⟨0, _, _, (by unfold oSt; (repeat' split) <;> first | rfl | omega), rfl, (MP.refl0 hCn h00)⟩ | exact hlift _ _ ⟨1, _, _, (by unfold oSt; (repeat' split) <;> first | rfl | omega), rfl, (MP.thr hT hCn 1)⟩ | exact hlift _ _ ⟨2, _, _, (by unfold oSt; (repeat' split) <;> first | rfl | omega), rfl, (MP.thr hT hCn 2)⟩ | exact hlift _ _ ⟨3, _, _, (by unfold oSt; (repeat' split) <;> first | rfl | omega), rfl, (MP.thr hT hCn 3)⟩) (by decide) (by decide) dX6_stateOf_27
def P_X6_batchOf (S : Sto) (q : Nat → Nat) (o : Int) : Option Value → Sto → Prop := fun v u => ∃ c r z', oBt (sgM S q) o = (c, r, z') ∧ v = some (.int (iI r)) ∧ MP S q u c z'
set_option maxRecDepth 100000 in
set_option maxHeartbeats 4000000 in
theorem ct_X6_batchOf (l : Launch) (g : GG) (S : Sto) (q : Nat → Nat) (o : Int) (hT : Top S q) (hW : Wf (sgM S q)) (hCn : Cn S q) (hio : inR o) : MetS l g yX6_batchOf cX6_batchOf 2 (some FieldType.int) 3 0 0 [.ref (q 80), .int (iI o)] S (P_X6_batchOf S q o) := by
  refine MetS.of (own := RX6) (lv := [(0, .ref (q 80)), (1, .int (iI o))]) (by decide) rfl (Nat.le_of_ble_eq_true rfl) rfl ?_
  intro pX eX sX mX argsX belowX methX cX C hin
  refine KRg (fun hR => ?_)
  obtain ⟨o1, o2⟩ := id hio
  refine KAload_n C dX6_batchOf_0 rfl 0 rfl ?_
  refine KIconst C dX6_batchOf_1 ?_
  obtain ⟨T, hTT, hT9, hW, hCn, h00, hz, hM⟩ := MP.start hT hW hCn
  refine KPutI (ty := .int) (v := 0) C ul_X6 rfl (by decide) 0 0 rfl (by decide) rfl u_fl_RX6_59 tyX6 tyX6_ok nmX6 (hT.at0 80 7) ⟨by omega, by omega⟩ (by decide +kernel) rfl rfl rfl dX6_batchOf_2 (fun _ h => h) ?_
  refine KSto (S2 := T) hTT.symm ?_
  have hT := hT9
  have hlift : ∀ v u, P_X6_batchOf T q o v u → P_X6_batchOf S q o v u := fun v u ⟨c, r, z', h1, h2, h3⟩ => ⟨c, r, z', hz ▸ h1, h2, hM.trans h3⟩
  refine KRg (fun hR => ?_)
  obtain ⟨hc6, hc13⟩ := id hCn
  have hCm : CfM T q := hW.cf
  obtain ⟨hA1, hA2, hN1, hN2, hG1, hG2⟩ := id hCm
  obtain ⟨ho40, hbo⟩ := hW.2.1
  have ezA : zA (sgM T q) = sI T (q 80) 1 := rfl
  have ezN : zN (sgM T q) = sI T (q 80) 2 := rfl
  refine KAload_n C dX6_batchOf_5 rfl 0 rfl ?_
  refine KIload_n C dX6_batchOf_6 rfl 1 rfl ?_
  refine KCallV (As := [.int (iI o)]) (b := q 80) (st := []) C (ct_X6_isOrder l g T q o hT (⟨by omega, by omega⟩) (by omega)) u_ml_RX6_108 u_im_yX6_isOrder u_se_yX6_isOrder u_in_RX6 u_co_yX6_isOrder hd_yX6_isOrder (hT.at0 80 7) (by decide) rfl rfl ⟨Nat.le_of_ble_eq_true rfl, Nat.le_of_ble_eq_true rfl⟩ ⟨Nat.le_of_ble_eq_true rfl, Nat.le_of_ble_eq_true rfl⟩ (Nat.le_of_ble_eq_true rfl) dX6_batchOf_7 rfl (fun v7 u7 hp7 => ?_)
  obtain ⟨⟨b7, rfl⟩ | ⟨b7, rfl⟩, rfl⟩ := hp7
  · refine KSt (st2 := [.int (iI 1)]) rfl ?_
    refine KIf_eq (tgt := 22) C dX6_batchOf_10 (by decide) ⟨by omega, by omega⟩ (fun h => absurd h (by decide)) (fun _ => ?_)
    refine KAload_n C dX6_batchOf_13 rfl 0 rfl ?_
    refine KGetR (S := T) C ul_X6 rfl (by decide) 9 9 rfl (by decide) rfl u_fl_RX6_23 (hT.at0 80 7) (b := q 84) (hT.ptr 80 9 84) dX6_batchOf_14 (fun _ h => h) ?_
    refine KIload_n C dX6_batchOf_17 rfl 1 rfl ?_
    refine KIald (S := T)  (v := sI T (q 84) o) C 40 (hT.at0 84 20) (hT.ln0 84 40) ⟨by omega, by omega⟩ (by omega) rfl dX6_batchOf_18 ?_
    have rb1 := hR.b (q 84) o (v := sI T (q 84) o) rfl
    refine KGoto (tgt := 27) C dX6_batchOf_19 (by decide) ?_
    refine KIret C rfl rfl (by
      first | exact hlift _ _ ⟨0, _, _, (by unfold oBt; (repeat' split) <;> first | rfl | omega), rfl, (MP.refl0 hCn h00)⟩ | exact hlift _ _ ⟨1, _, _, (by unfold oBt; (repeat' split) <;> first | rfl | omega), rfl, (MP.thr hT hCn 1)⟩ | exact hlift _ _ ⟨2, _, _, (by unfold oBt; (repeat' split) <;> first | rfl | omega), rfl, (MP.thr hT hCn 2)⟩ | exact hlift _ _ ⟨3, _, _, (by unfold oBt; (repeat' split) <;> first | rfl | omega), rfl, (MP.thr hT hCn 3)⟩) (by decide) (by decide) dX6_batchOf_27
  · refine KSt (st2 := [.int (iI 0)]) rfl ?_
    refine KIf_eq (tgt := 22) C dX6_batchOf_10 (by decide) ⟨by omega, by omega⟩ (fun _ => ?_) (fun h => absurd h (by decide))
    refine KAload_n C dX6_batchOf_22 rfl 0 rfl ?_
    refine KIconst C dX6_batchOf_23 ?_
    refine KCallV (As := [.int (iI 1)]) (b := q 80) (st := []) C (ct_X6_fails l g T q 1 hT (by omega)) u_ml_RX6_94 u_im_yX6_fails u_se_yX6_fails u_in_RX6 u_co_yX6_fails hd_yX6_fails (hT.at0 80 7) (by decide) rfl rfl ⟨Nat.le_of_ble_eq_true rfl, Nat.le_of_ble_eq_true rfl⟩ ⟨Nat.le_of_ble_eq_true rfl, Nat.le_of_ble_eq_true rfl⟩ (Nat.le_of_ble_eq_true rfl) dX6_batchOf_24 rfl (fun v24 u24 hp24 => ?_)
    obtain ⟨rfl, rfl⟩ := hp24
    refine KSt (st2 := [.int (iI 0)]) rfl ?_
    refine KRg (fun hR => ?_)
    refine KIret C rfl rfl (by
      first | exact hlift _ _ ⟨0, _, _, (by unfold oBt; (repeat' split) <;> first | rfl | omega), rfl, (MP.refl0 hCn h00)⟩ | exact hlift _ _ ⟨1, _, _, (by unfold oBt; (repeat' split) <;> first | rfl | omega), rfl, (MP.thr hT hCn 1)⟩ | exact hlift _ _ ⟨2, _, _, (by unfold oBt; (repeat' split) <;> first | rfl | omega), rfl, (MP.thr hT hCn 2)⟩ | exact hlift _ _ ⟨3, _, _, (by unfold oBt; (repeat' split) <;> first | rfl | omega), rfl, (MP.thr hT hCn 3)⟩) (by decide) (by decide) dX6_batchOf_27
def P_X6_turnover (S : Sto) (q : Nat → Nat) (p : Int) : Option Value → Sto → Prop := fun v u => ∃ c r z', oTv (sgM S q) p = (c, r, z') ∧ v = some (.int (iI r)) ∧ MP S q u c z'
set_option maxRecDepth 100000 in
set_option maxHeartbeats 4000000 in
theorem ct_X6_turnover (l : Launch) (g : GG) (S : Sto) (q : Nat → Nat) (p : Int) (hT : Top S q) (hW : Wf (sgM S q)) (hCn : Cn S q) (hip : inR p) : MetS l g yX6_turnover cX6_turnover 2 (some FieldType.int) 3 0 0 [.ref (q 80), .int (iI p)] S (P_X6_turnover S q p) := by
  refine MetS.of (own := RX6) (lv := [(0, .ref (q 80)), (1, .int (iI p))]) (by decide) rfl (Nat.le_of_ble_eq_true rfl) rfl ?_
  intro pX eX sX mX argsX belowX methX cX C hin
  refine KRg (fun hR => ?_)
  obtain ⟨p1, p2⟩ := id hip
  refine KAload_n C dX6_turnover_0 rfl 0 rfl ?_
  refine KIconst C dX6_turnover_1 ?_
  obtain ⟨T, hTT, hT9, hW, hCn, h00, hz, hM⟩ := MP.start hT hW hCn
  refine KPutI (ty := .int) (v := 0) C ul_X6 rfl (by decide) 0 0 rfl (by decide) rfl u_fl_RX6_59 tyX6 tyX6_ok nmX6 (hT.at0 80 7) ⟨by omega, by omega⟩ (by decide +kernel) rfl rfl rfl dX6_turnover_2 (fun _ h => h) ?_
  refine KSto (S2 := T) hTT.symm ?_
  have hT := hT9
  have hlift : ∀ v u, P_X6_turnover T q p v u → P_X6_turnover S q p v u := fun v u ⟨c, r, z', h1, h2, h3⟩ => ⟨c, r, z', hz ▸ h1, h2, hM.trans h3⟩
  refine KRg (fun hR => ?_)
  obtain ⟨hc6, hc13⟩ := id hCn
  have hCm : CfM T q := hW.cf
  obtain ⟨hA1, hA2, hN1, hN2, hG1, hG2⟩ := id hCm
  obtain ⟨ho40, hbo⟩ := hW.2.1
  have ezA : zA (sgM T q) = sI T (q 80) 1 := rfl
  have ezN : zN (sgM T q) = sI T (q 80) 2 := rfl
  refine KIload_n C dX6_turnover_5 rfl 1 rfl ?_
  refine KCallS (As := [.int (iI p)]) (st := []) C (ct_X6_isProduct l g T p (⟨by omega, by omega⟩)) u_ml_RX6_90 u_st_yX6_isProduct u_in_RX6 u_co_yX6_isProduct hd_yX6_isProduct ⟨Nat.le_of_ble_eq_true rfl, Nat.le_of_ble_eq_true rfl⟩ ⟨Nat.le_of_ble_eq_true rfl, Nat.le_of_ble_eq_true rfl⟩ (Nat.le_of_ble_eq_true rfl) dX6_turnover_6 rfl (fun v6 u6 hp6 => ?_)
  obtain ⟨⟨b6, rfl⟩ | ⟨b6, rfl⟩, rfl⟩ := hp6
  · refine KSt (st2 := [.int (iI 1)]) rfl ?_
    refine KIf_eq (tgt := 20) C dX6_turnover_9 (by decide) ⟨by omega, by omega⟩ (fun h => absurd h (by decide)) (fun _ => ?_)
    refine KAload_n C dX6_turnover_12 rfl 0 rfl ?_
    refine KIload_n C dX6_turnover_13 rfl 1 rfl ?_
    refine KCallV (As := [.int (iI p)]) (b := q 80) (st := []) C (ct_X6_turnoverOf l g T q p hT hW.wq hCn (by omega)) u_ml_RX6_98 u_im_yX6_turnoverOf u_se_yX6_turnoverOf u_in_RX6 u_co_yX6_turnoverOf hd_yX6_turnoverOf (hT.at0 80 7) (by decide) rfl rfl ⟨Nat.le_of_ble_eq_true rfl, Nat.le_of_ble_eq_true rfl⟩ ⟨Nat.le_of_ble_eq_true rfl, Nat.le_of_ble_eq_true rfl⟩ (Nat.le_of_ble_eq_true rfl) dX6_turnover_14 rfl (fun v14 u14 hp14 => ?_)
    obtain ⟨rfl, rfl⟩ := hp14
    refine KSt (st2 := [.int (iI (ztv (sgM T q) p))]) rfl ?_
    refine KRg (fun hR => ?_)
    refine KGoto (tgt := 25) C dX6_turnover_17 (by decide) ?_
    refine KIret C rfl rfl (by
      first | exact hlift _ _ ⟨0, _, _, (by unfold oTv; (repeat' split) <;> first | rfl | omega), rfl, (MP.refl0 hCn h00)⟩ | exact hlift _ _ ⟨1, _, _, (by unfold oTv; (repeat' split) <;> first | rfl | omega), rfl, (MP.thr hT hCn 1)⟩ | exact hlift _ _ ⟨2, _, _, (by unfold oTv; (repeat' split) <;> first | rfl | omega), rfl, (MP.thr hT hCn 2)⟩ | exact hlift _ _ ⟨3, _, _, (by unfold oTv; (repeat' split) <;> first | rfl | omega), rfl, (MP.thr hT hCn 3)⟩) (by decide) (by decide) dX6_turnover_25
  · refine KSt (st2 := [.int (iI 0)]) rfl ?_
    refine KIf_eq (tgt := 20) C dX6_turnover_9 (by decide) ⟨by omega, by omega⟩ (fun _ => ?_) (fun h => absurd h (by decide))
    refine KAload_n C dX6_turnover_20 rfl 0 rfl ?_
    refine KIconst C dX6_turnover_21 ?_
    refine KCallV (As := [.int (iI 1)]) (b := q 80) (st := []) C (ct_X6_fails l g T q 1 hT (by omega)) u_ml_RX6_94 u_im_yX6_fails u_se_yX6_fails u_in_RX6 u_co_yX6_fails hd_yX6_fails (hT.at0 80 7) (by decide) rfl rfl ⟨Nat.le_of_ble_eq_true rfl, Nat.le_of_ble_eq_true rfl⟩ ⟨Nat.le_of_ble_eq_true rfl, Nat.le_of_ble_eq_true rfl⟩ (Nat.le_of_ble_eq_true rfl) dX6_turnover_22 rfl (fun v22 u22 hp22 => ?_)
    obtain ⟨rfl, rfl⟩ := hp22
    refine KSt (st2 := [.int (iI 0)]) rfl ?_
    refine KRg (fun hR => ?_)
    refine KIret C rfl rfl (by
      first | exact hlift _ _ ⟨0, _, _, (by unfold oTv; (repeat' split) <;> first | rfl | omega), rfl, (MP.refl0 hCn h00)⟩ | exact hlift _ _ ⟨1, _, _, (by unfold oTv; (repeat' split) <;> first | rfl | omega), rfl, (MP.thr hT hCn 1)⟩ | exact hlift _ _ ⟨2, _, _, (by unfold oTv; (repeat' split) <;> first | rfl | omega), rfl, (MP.thr hT hCn 2)⟩ | exact hlift _ _ ⟨3, _, _, (by unfold oTv; (repeat' split) <;> first | rfl | omega), rfl, (MP.thr hT hCn 3)⟩) (by decide) (by decide) dX6_turnover_25
def P_X6_distance (S : Sto) (q : Nat → Nat) (x : Int) (y : Int) : Option Value → Sto → Prop := fun v u => ∃ c r z', oDi (sgM S q) x y = (c, r, z') ∧ v = some (.int (iI r)) ∧ MP S q u c z'
set_option maxRecDepth 100000 in
set_option maxHeartbeats 4000000 in
theorem ct_X6_distance (l : Launch) (g : GG) (S : Sto) (q : Nat → Nat) (x : Int) (y : Int) (hT : Top S q) (hW : Wf (sgM S q)) (hCn : Cn S q) (hix : inR x) (hiy : inR y) : MetS l g yX6_distance cX6_distance 3 (some FieldType.int) 3 0 0 [.ref (q 80), .int (iI x), .int (iI y)] S (P_X6_distance S q x y) := by
  refine MetS.of (own := RX6) (lv := [(0, .ref (q 80)), (1, .int (iI x)), (2, .int (iI y))]) (by decide) rfl (Nat.le_of_ble_eq_true rfl) rfl ?_
  intro pX eX sX mX argsX belowX methX cX C hin
  refine KRg (fun hR => ?_)
  obtain ⟨x1, x2⟩ := id hix
  obtain ⟨y1, y2⟩ := id hiy
  refine KAload_n C dX6_distance_0 rfl 0 rfl ?_
  refine KIconst C dX6_distance_1 ?_
  obtain ⟨T, hTT, hT9, hW, hCn, h00, hz, hM⟩ := MP.start hT hW hCn
  refine KPutI (ty := .int) (v := 0) C ul_X6 rfl (by decide) 0 0 rfl (by decide) rfl u_fl_RX6_59 tyX6 tyX6_ok nmX6 (hT.at0 80 7) ⟨by omega, by omega⟩ (by decide +kernel) rfl rfl rfl dX6_distance_2 (fun _ h => h) ?_
  refine KSto (S2 := T) hTT.symm ?_
  have hT := hT9
  have hlift : ∀ v u, P_X6_distance T q x y v u → P_X6_distance S q x y v u := fun v u ⟨c, r, z', h1, h2, h3⟩ => ⟨c, r, z', hz ▸ h1, h2, hM.trans h3⟩
  refine KRg (fun hR => ?_)
  obtain ⟨hc6, hc13⟩ := id hCn
  have hCm : CfM T q := hW.cf
  obtain ⟨hA1, hA2, hN1, hN2, hG1, hG2⟩ := id hCm
  obtain ⟨ho40, hbo⟩ := hW.2.1
  have ezA : zA (sgM T q) = sI T (q 80) 1 := rfl
  have ezN : zN (sgM T q) = sI T (q 80) 2 := rfl
  refine KIload_n C dX6_distance_5 rfl 1 rfl ?_
  refine KCallS (As := [.int (iI x)]) (st := []) C (ct_X6_isProduct l g T x (⟨by omega, by omega⟩)) u_ml_RX6_90 u_st_yX6_isProduct u_in_RX6 u_co_yX6_isProduct hd_yX6_isProduct ⟨Nat.le_of_ble_eq_true rfl, Nat.le_of_ble_eq_true rfl⟩ ⟨Nat.le_of_ble_eq_true rfl, Nat.le_of_ble_eq_true rfl⟩ (Nat.le_of_ble_eq_true rfl) dX6_distance_6 rfl (fun v6 u6 hp6 => ?_)
  obtain ⟨⟨b6, rfl⟩ | ⟨b6, rfl⟩, rfl⟩ := hp6
  · refine KSt (st2 := [.int (iI 1)]) rfl ?_
    refine KIf_eq (tgt := 19) C dX6_distance_9 (by decide) ⟨by omega, by omega⟩ (fun h => absurd h (by decide)) (fun _ => ?_)
    refine KIload_n C dX6_distance_12 rfl 2 rfl ?_
    refine KCallS (As := [.int (iI y)]) (st := []) C (ct_X6_isProduct l g T y (⟨by omega, by omega⟩)) u_ml_RX6_90 u_st_yX6_isProduct u_in_RX6 u_co_yX6_isProduct hd_yX6_isProduct ⟨Nat.le_of_ble_eq_true rfl, Nat.le_of_ble_eq_true rfl⟩ ⟨Nat.le_of_ble_eq_true rfl, Nat.le_of_ble_eq_true rfl⟩ (Nat.le_of_ble_eq_true rfl) dX6_distance_13 rfl (fun v13 u13 hp13 => ?_)
    obtain ⟨⟨b13, rfl⟩ | ⟨b13, rfl⟩, rfl⟩ := hp13
    · refine KSt (st2 := [.int (iI 1)]) rfl ?_
      have ezx : zP (sgM T q) x = sI T (q 81) x := rfl
      have ezy : zP (sgM T q) y = sI T (q 81) y := rfl
      have hpx := hW.plI (x := x) (by omega)
      have hpy := hW.plI (x := y) (by omega)
      refine KIf_ne (tgt := 25) C dX6_distance_16 (by decide) ⟨by omega, by omega⟩ (fun _ => ?_) (fun h => absurd h (by decide))
      refine KAload_n C dX6_distance_25 rfl 0 rfl ?_
      refine KGetR (S := T) C ul_X6 rfl (by decide) 5 5 rfl (by decide) rfl u_fl_RX6_13 (hT.at0 80 7) (b := q 81) (hT.ptr 80 5 81) dX6_distance_26 (fun _ h => h) ?_
      refine KIload_n C dX6_distance_29 rfl 1 rfl ?_
      refine KIald (S := T)  (v := sI T (q 81) x) C 20 (hT.at0 81 20) (hT.ln0 81 20) ⟨by omega, by omega⟩ (by omega) rfl dX6_distance_30 ?_
      have rb1 := hR.b (q 81) x (v := sI T (q 81) x) rfl
      refine KIconst C dX6_distance_31 ?_
      refine KIcmp_eq (tgt := 45) C dX6_distance_32 (by decide) ⟨by omega, by omega⟩ ⟨by omega, by omega⟩ (fun c32 => ?_) (fun c32 => ?_)
      · refine KAload_n C dX6_distance_45 rfl 0 rfl ?_
        refine KIconst C dX6_distance_46 ?_
        refine KCallV (As := [.int (iI 2)]) (b := q 80) (st := []) C (ct_X6_fails l g T q 2 hT (by omega)) u_ml_RX6_94 u_im_yX6_fails u_se_yX6_fails u_in_RX6 u_co_yX6_fails hd_yX6_fails (hT.at0 80 7) (by decide) rfl rfl ⟨Nat.le_of_ble_eq_true rfl, Nat.le_of_ble_eq_true rfl⟩ ⟨Nat.le_of_ble_eq_true rfl, Nat.le_of_ble_eq_true rfl⟩ (Nat.le_of_ble_eq_true rfl) dX6_distance_47 rfl (fun v47 u47 hp47 => ?_)
        obtain ⟨rfl, rfl⟩ := hp47
        refine KSt (st2 := [.int (iI 0)]) rfl ?_
        refine KRg (fun hR => ?_)
        refine KGoto (tgt := 69) C dX6_distance_50 (by decide) ?_
        refine KIret C rfl rfl (by
          first | exact hlift _ _ ⟨0, _, _, (by unfold oDi; (repeat' split) <;> first | rfl | omega), rfl, (MP.refl0 hCn h00)⟩ | exact hlift _ _ ⟨1, _, _, (by unfold oDi; (repeat' split) <;> first | rfl | omega), rfl, (MP.thr hT hCn 1)⟩ | exact hlift _ _ ⟨2, _, _, (by unfold oDi; (repeat' split) <;> first | rfl | omega), rfl, (MP.thr hT hCn 2)⟩ | exact hlift _ _ ⟨3, _, _, (by unfold oDi; (repeat' split) <;> first | rfl | omega), rfl, (MP.thr hT hCn 3)⟩) (by decide) (by decide) dX6_distance_69
      · refine KAload_n C dX6_distance_35 rfl 0 rfl ?_
        refine KGetR (S := T) C ul_X6 rfl (by decide) 5 5 rfl (by decide) rfl u_fl_RX6_13 (hT.at0 80 7) (b := q 81) (hT.ptr 80 5 81) dX6_distance_36 (fun _ h => h) ?_
        refine KIload_n C dX6_distance_39 rfl 2 rfl ?_
        refine KIald (S := T)  (v := sI T (q 81) y) C 20 (hT.at0 81 20) (hT.ln0 81 20) ⟨by omega, by omega⟩ (by omega) rfl dX6_distance_40 ?_
        have rb2 := hR.b (q 81) y (v := sI T (q 81) y) rfl
        refine KIconst C dX6_distance_41 ?_
        refine KIcmp_ne (tgt := 53) C dX6_distance_42 (by decide) ⟨by omega, by omega⟩ ⟨by omega, by omega⟩ (fun c42 => ?_) (fun c42 => ?_)
        · refine KAload_n C dX6_distance_53 rfl 0 rfl ?_
          refine KAload_n C dX6_distance_54 rfl 0 rfl ?_
          refine KGetR (S := T) C ul_X6 rfl (by decide) 5 5 rfl (by decide) rfl u_fl_RX6_13 (hT.at0 80 7) (b := q 81) (hT.ptr 80 5 81) dX6_distance_55 (fun _ h => h) ?_
          refine KIload_n C dX6_distance_58 rfl 1 rfl ?_
          refine KIald (S := T)  (v := sI T (q 81) x) C 20 (hT.at0 81 20) (hT.ln0 81 20) ⟨by omega, by omega⟩ (by omega) rfl dX6_distance_59 ?_
          have rb3 := hR.b (q 81) x (v := sI T (q 81) x) rfl
          refine KAload_n C dX6_distance_60 rfl 0 rfl ?_
          refine KGetR (S := T) C ul_X6 rfl (by decide) 5 5 rfl (by decide) rfl u_fl_RX6_13 (hT.at0 80 7) (b := q 81) (hT.ptr 80 5 81) dX6_distance_61 (fun _ h => h) ?_
          refine KIload_n C dX6_distance_64 rfl 2 rfl ?_
          refine KIald (S := T)  (v := sI T (q 81) y) C 20 (hT.at0 81 20) (hT.ln0 81 20) ⟨by omega, by omega⟩ (by omega) rfl dX6_distance_65 ?_
          have rb4 := hR.b (q 81) y (v := sI T (q 81) y) rfl
          refine KCallV (As := [.int (iI (sI T (q 81) x)), .int (iI (sI T (q 81) y))]) (b := q 80) (st := []) C (ct_X6_way l g T q (sI T (q 81) x) (sI T (q 81) y) hT hCm (by omega) (by omega)) u_ml_RX6_72 u_im_yX6_way u_se_yX6_way u_in_RX6 u_co_yX6_way hd_yX6_way (hT.at0 80 7) (by decide) rfl rfl ⟨Nat.le_of_ble_eq_true rfl, Nat.le_of_ble_eq_true rfl⟩ ⟨Nat.le_of_ble_eq_true rfl, Nat.le_of_ble_eq_true rfl⟩ (Nat.le_of_ble_eq_true rfl) dX6_distance_66 rfl (fun v66 u66 hp66 => ?_)
          obtain ⟨rfl, rfl⟩ := hp66
          refine KSt (st2 := [.int (iI (dst (sI T (q 80) 2) (sI T (q 80) 3) (sI T (q 81) x) (sI T (q 81) y)))]) rfl ?_
          refine KRg (fun hR => ?_)
          refine KIret C rfl rfl (by
            first | exact hlift _ _ ⟨0, _, _, (by unfold oDi; (repeat' split) <;> first | rfl | omega), rfl, (MP.refl0 hCn h00)⟩ | exact hlift _ _ ⟨1, _, _, (by unfold oDi; (repeat' split) <;> first | rfl | omega), rfl, (MP.thr hT hCn 1)⟩ | exact hlift _ _ ⟨2, _, _, (by unfold oDi; (repeat' split) <;> first | rfl | omega), rfl, (MP.thr hT hCn 2)⟩ | exact hlift _ _ ⟨3, _, _, (by unfold oDi; (repeat' split) <;> first | rfl | omega), rfl, (MP.thr hT hCn 3)⟩) (by decide) (by decide) dX6_distance_69
        · refine KAload_n C dX6_distance_45 rfl 0 rfl ?_
          refine KIconst C dX6_distance_46 ?_
          refine KCallV (As := [.int (iI 2)]) (b := q 80) (st := []) C (ct_X6_fails l g T q 2 hT (by omega)) u_ml_RX6_94 u_im_yX6_fails u_se_yX6_fails u_in_RX6 u_co_yX6_fails hd_yX6_fails (hT.at0 80 7) (by decide) rfl rfl ⟨Nat.le_of_ble_eq_true rfl, Nat.le_of_ble_eq_true rfl⟩ ⟨Nat.le_of_ble_eq_true rfl, Nat.le_of_ble_eq_true rfl⟩ (Nat.le_of_ble_eq_true rfl) dX6_distance_47 rfl (fun v47 u47 hp47 => ?_)
          obtain ⟨rfl, rfl⟩ := hp47
          refine KSt (st2 := [.int (iI 0)]) rfl ?_
          refine KRg (fun hR => ?_)
          refine KGoto (tgt := 69) C dX6_distance_50 (by decide) ?_
          refine KIret C rfl rfl (by
            first | exact hlift _ _ ⟨0, _, _, (by unfold oDi; (repeat' split) <;> first | rfl | omega), rfl, (MP.refl0 hCn h00)⟩ | exact hlift _ _ ⟨1, _, _, (by unfold oDi; (repeat' split) <;> first | rfl | omega), rfl, (MP.thr hT hCn 1)⟩ | exact hlift _ _ ⟨2, _, _, (by unfold oDi; (repeat' split) <;> first | rfl | omega), rfl, (MP.thr hT hCn 2)⟩ | exact hlift _ _ ⟨3, _, _, (by unfold oDi; (repeat' split) <;> first | rfl | omega), rfl, (MP.thr hT hCn 3)⟩) (by decide) (by decide) dX6_distance_69
    · refine KSt (st2 := [.int (iI 0)]) rfl ?_
      refine KIf_ne (tgt := 25) C dX6_distance_16 (by decide) ⟨by omega, by omega⟩ (fun h => absurd h (by decide)) (fun _ => ?_)
      refine KAload_n C dX6_distance_19 rfl 0 rfl ?_
      refine KIconst C dX6_distance_20 ?_
      refine KCallV (As := [.int (iI 1)]) (b := q 80) (st := []) C (ct_X6_fails l g T q 1 hT (by omega)) u_ml_RX6_94 u_im_yX6_fails u_se_yX6_fails u_in_RX6 u_co_yX6_fails hd_yX6_fails (hT.at0 80 7) (by decide) rfl rfl ⟨Nat.le_of_ble_eq_true rfl, Nat.le_of_ble_eq_true rfl⟩ ⟨Nat.le_of_ble_eq_true rfl, Nat.le_of_ble_eq_true rfl⟩ (Nat.le_of_ble_eq_true rfl) dX6_distance_21 rfl (fun v21 u21 hp21 => ?_)
      obtain ⟨rfl, rfl⟩ := hp21
      refine KSt (st2 := [.int (iI 0)]) rfl ?_
      refine KRg (fun hR => ?_)
      refine KIret C rfl rfl (by
        first | exact hlift _ _ ⟨0, _, _, (by unfold oDi; (repeat' split) <;> first | rfl | omega), rfl, (MP.refl0 hCn h00)⟩ | exact hlift _ _ ⟨1, _, _, (by unfold oDi; (repeat' split) <;> first | rfl | omega), rfl, (MP.thr hT hCn 1)⟩ | exact hlift _ _ ⟨2, _, _, (by unfold oDi; (repeat' split) <;> first | rfl | omega), rfl, (MP.thr hT hCn 2)⟩ | exact hlift _ _ ⟨3, _, _, (by unfold oDi; (repeat' split) <;> first | rfl | omega), rfl, (MP.thr hT hCn 3)⟩) (by decide) (by decide) dX6_distance_24
  · refine KSt (st2 := [.int (iI 0)]) rfl ?_
    refine KIf_eq (tgt := 19) C dX6_distance_9 (by decide) ⟨by omega, by omega⟩ (fun _ => ?_) (fun h => absurd h (by decide))
    refine KAload_n C dX6_distance_19 rfl 0 rfl ?_
    refine KIconst C dX6_distance_20 ?_
    refine KCallV (As := [.int (iI 1)]) (b := q 80) (st := []) C (ct_X6_fails l g T q 1 hT (by omega)) u_ml_RX6_94 u_im_yX6_fails u_se_yX6_fails u_in_RX6 u_co_yX6_fails hd_yX6_fails (hT.at0 80 7) (by decide) rfl rfl ⟨Nat.le_of_ble_eq_true rfl, Nat.le_of_ble_eq_true rfl⟩ ⟨Nat.le_of_ble_eq_true rfl, Nat.le_of_ble_eq_true rfl⟩ (Nat.le_of_ble_eq_true rfl) dX6_distance_21 rfl (fun v21 u21 hp21 => ?_)
    obtain ⟨rfl, rfl⟩ := hp21
    refine KSt (st2 := [.int (iI 0)]) rfl ?_
    refine KRg (fun hR => ?_)
    refine KIret C rfl rfl (by
      first | exact hlift _ _ ⟨0, _, _, (by unfold oDi; (repeat' split) <;> first | rfl | omega), rfl, (MP.refl0 hCn h00)⟩ | exact hlift _ _ ⟨1, _, _, (by unfold oDi; (repeat' split) <;> first | rfl | omega), rfl, (MP.thr hT hCn 1)⟩ | exact hlift _ _ ⟨2, _, _, (by unfold oDi; (repeat' split) <;> first | rfl | omega), rfl, (MP.thr hT hCn 2)⟩ | exact hlift _ _ ⟨3, _, _, (by unfold oDi; (repeat' split) <;> first | rfl | omega), rfl, (MP.thr hT hCn 3)⟩) (by decide) (by decide) dX6_distance_24
def P_X6_linesOf (S : Sto) (q : Nat → Nat) (b : Int) : Option Value → Sto → Prop := fun v u => ∃ c r z', oLn (sgM S q) b = (c, r, z') ∧ v = some (.int (iI r)) ∧ MP S q u c z'
set_option maxRecDepth 100000 in
set_option maxHeartbeats 4000000 in
theorem ct_X6_linesOf (l : Launch) (g : GG) (S : Sto) (q : Nat → Nat) (b : Int) (hT : Top S q) (hW : Wf (sgM S q)) (hCn : Cn S q) (hib : inR b) : MetS l g yX6_linesOf cX6_linesOf 2 (some FieldType.int) 3 0 0 [.ref (q 80), .int (iI b)] S (P_X6_linesOf S q b) := by
  refine MetS.of (own := RX6) (lv := [(0, .ref (q 80)), (1, .int (iI b))]) (by decide) rfl (Nat.le_of_ble_eq_true rfl) rfl ?_
  intro pX eX sX mX argsX belowX methX cX C hin
  refine KRg (fun hR => ?_)
  obtain ⟨b1, b2⟩ := id hib
  refine KAload_n C dX6_linesOf_0 rfl 0 rfl ?_
  refine KIconst C dX6_linesOf_1 ?_
  obtain ⟨T, hTT, hT9, hW, hCn, h00, hz, hM⟩ := MP.start hT hW hCn
  refine KPutI (ty := .int) (v := 0) C ul_X6 rfl (by decide) 0 0 rfl (by decide) rfl u_fl_RX6_59 tyX6 tyX6_ok nmX6 (hT.at0 80 7) ⟨by omega, by omega⟩ (by decide +kernel) rfl rfl rfl dX6_linesOf_2 (fun _ h => h) ?_
  refine KSto (S2 := T) hTT.symm ?_
  have hT := hT9
  have hlift : ∀ v u, P_X6_linesOf T q b v u → P_X6_linesOf S q b v u := fun v u ⟨c, r, z', h1, h2, h3⟩ => ⟨c, r, z', hz ▸ h1, h2, hM.trans h3⟩
  refine KRg (fun hR => ?_)
  obtain ⟨hc6, hc13⟩ := id hCn
  have hCm : CfM T q := hW.cf
  obtain ⟨hA1, hA2, hN1, hN2, hG1, hG2⟩ := id hCm
  obtain ⟨ho40, hbo⟩ := hW.2.1
  have ezA : zA (sgM T q) = sI T (q 80) 1 := rfl
  have ezN : zN (sgM T q) = sI T (q 80) 2 := rfl
  refine KAload_n C dX6_linesOf_5 rfl 0 rfl ?_
  refine KIload_n C dX6_linesOf_6 rfl 1 rfl ?_
  refine KCallV (As := [.int (iI b)]) (b := q 80) (st := []) C (ct_X6_isBatch l g T q b hT (⟨by omega, by omega⟩) (by omega)) u_ml_RX6_130 u_im_yX6_isBatch u_se_yX6_isBatch u_in_RX6 u_co_yX6_isBatch hd_yX6_isBatch (hT.at0 80 7) (by decide) rfl rfl ⟨Nat.le_of_ble_eq_true rfl, Nat.le_of_ble_eq_true rfl⟩ ⟨Nat.le_of_ble_eq_true rfl, Nat.le_of_ble_eq_true rfl⟩ (Nat.le_of_ble_eq_true rfl) dX6_linesOf_7 rfl (fun v7 u7 hp7 => ?_)
  obtain ⟨⟨b7, rfl⟩ | ⟨b7, rfl⟩, rfl⟩ := hp7
  · refine KSt (st2 := [.int (iI 1)]) rfl ?_
    refine KIf_eq (tgt := 21) C dX6_linesOf_10 (by decide) ⟨by omega, by omega⟩ (fun h => absurd h (by decide)) (fun _ => ?_)
    refine KAload_n C dX6_linesOf_13 rfl 0 rfl ?_
    refine KIload_n C dX6_linesOf_14 rfl 1 rfl ?_
    refine KCallV (As := [.int (iI b)]) (b := q 80) (st := []) C (ct_X6_countLines l g T q b hT hW.wl hCn (by omega)) u_ml_RX6_117 u_im_yX6_countLines u_se_yX6_countLines u_in_RX6 u_co_yX6_countLines hd_yX6_countLines (hT.at0 80 7) (by decide) rfl rfl ⟨Nat.le_of_ble_eq_true rfl, Nat.le_of_ble_eq_true rfl⟩ ⟨Nat.le_of_ble_eq_true rfl, Nat.le_of_ble_eq_true rfl⟩ (Nat.le_of_ble_eq_true rfl) dX6_linesOf_15 rfl (fun v15 u15 hp15 => ?_)
    obtain ⟨rfl, rfl⟩ := hp15
    refine KSt (st2 := [.int (iI (zln (sgM T q) b))]) rfl ?_
    refine KRg (fun hR => ?_)
    refine KGoto (tgt := 26) C dX6_linesOf_18 (by decide) ?_
    refine KIret C rfl rfl (by
      first | exact hlift _ _ ⟨0, _, _, (by unfold oLn; (repeat' split) <;> first | rfl | omega), rfl, (MP.refl0 hCn h00)⟩ | exact hlift _ _ ⟨1, _, _, (by unfold oLn; (repeat' split) <;> first | rfl | omega), rfl, (MP.thr hT hCn 1)⟩ | exact hlift _ _ ⟨2, _, _, (by unfold oLn; (repeat' split) <;> first | rfl | omega), rfl, (MP.thr hT hCn 2)⟩ | exact hlift _ _ ⟨3, _, _, (by unfold oLn; (repeat' split) <;> first | rfl | omega), rfl, (MP.thr hT hCn 3)⟩) (by decide) (by decide) dX6_linesOf_26
  · refine KSt (st2 := [.int (iI 0)]) rfl ?_
    refine KIf_eq (tgt := 21) C dX6_linesOf_10 (by decide) ⟨by omega, by omega⟩ (fun _ => ?_) (fun h => absurd h (by decide))
    refine KAload_n C dX6_linesOf_21 rfl 0 rfl ?_
    refine KIconst C dX6_linesOf_22 ?_
    refine KCallV (As := [.int (iI 1)]) (b := q 80) (st := []) C (ct_X6_fails l g T q 1 hT (by omega)) u_ml_RX6_94 u_im_yX6_fails u_se_yX6_fails u_in_RX6 u_co_yX6_fails hd_yX6_fails (hT.at0 80 7) (by decide) rfl rfl ⟨Nat.le_of_ble_eq_true rfl, Nat.le_of_ble_eq_true rfl⟩ ⟨Nat.le_of_ble_eq_true rfl, Nat.le_of_ble_eq_true rfl⟩ (Nat.le_of_ble_eq_true rfl) dX6_linesOf_23 rfl (fun v23 u23 hp23 => ?_)
    obtain ⟨rfl, rfl⟩ := hp23
    refine KSt (st2 := [.int (iI 0)]) rfl ?_
    refine KRg (fun hR => ?_)
    refine KIret C rfl rfl (by
      first | exact hlift _ _ ⟨0, _, _, (by unfold oLn; (repeat' split) <;> first | rfl | omega), rfl, (MP.refl0 hCn h00)⟩ | exact hlift _ _ ⟨1, _, _, (by unfold oLn; (repeat' split) <;> first | rfl | omega), rfl, (MP.thr hT hCn 1)⟩ | exact hlift _ _ ⟨2, _, _, (by unfold oLn; (repeat' split) <;> first | rfl | omega), rfl, (MP.thr hT hCn 2)⟩ | exact hlift _ _ ⟨3, _, _, (by unfold oLn; (repeat' split) <;> first | rfl | omega), rfl, (MP.thr hT hCn 3)⟩) (by decide) (by decide) dX6_linesOf_26
def P_X6_put (S : Sto) (q : Nat → Nat) (p : Int) (a : Int) (i : Int) : Option Value → Sto → Prop := fun v u => ∃ c r z', oPut (sgM S q) p a i = (c, r, z') ∧ v = some (.int (iI r)) ∧ MP S q u c z'
set_option maxRecDepth 100000 in
set_option maxHeartbeats 4000000 in
theorem ct_X6_put (l : Launch) (g : GG) (S : Sto) (q : Nat → Nat) (p : Int) (a : Int) (i : Int) (hT : Top S q) (hW : Wf (sgM S q)) (hCn : Cn S q) (hip : inR p) (hia : inR a) (hii : inR i) : MetS l g yX6_put cX6_put 7 (some FieldType.int) 3 0 0 [.ref (q 80), .int (iI p), .int (iI a), .int (iI i)] S (P_X6_put S q p a i) := by
  refine MetS.of (own := RX6) (lv := [(0, .ref (q 80)), (1, .int (iI p)), (2, .int (iI a)), (3, .int (iI i))]) (by decide) rfl (Nat.le_of_ble_eq_true rfl) rfl ?_
  intro pX eX sX mX argsX belowX methX cX C hin
  refine KRg (fun hR => ?_)
  obtain ⟨p1, p2⟩ := id hip
  obtain ⟨a1, a2⟩ := id hia
  obtain ⟨i1, i2⟩ := id hii
  refine KAload_n C dX6_put_0 rfl 0 rfl ?_
  refine KIconst C dX6_put_1 ?_
  obtain ⟨T, hTT, hT9, hW, hCn, h00, hz, hM⟩ := MP.start hT hW hCn
  refine KPutI (ty := .int) (v := 0) C ul_X6 rfl (by decide) 0 0 rfl (by decide) rfl u_fl_RX6_59 tyX6 tyX6_ok nmX6 (hT.at0 80 7) ⟨by omega, by omega⟩ (by decide +kernel) rfl rfl rfl dX6_put_2 (fun _ h => h) ?_
  refine KSto (S2 := T) hTT.symm ?_
  have hT := hT9
  have hlift : ∀ v u, P_X6_put T q p a i v u → P_X6_put S q p a i v u := fun v u ⟨c, r, z', h1, h2, h3⟩ => ⟨c, r, z', hz ▸ h1, h2, hM.trans h3⟩
  refine KRg (fun hR => ?_)
  obtain ⟨hc6, hc13⟩ := id hCn
  have hCm : CfM T q := hW.cf
  obtain ⟨hA1, hA2, hN1, hN2, hG1, hG2⟩ := id hCm
  obtain ⟨ho40, hbo⟩ := hW.2.1
  have ezA : zA (sgM T q) = sI T (q 80) 1 := rfl
  have ezN : zN (sgM T q) = sI T (q 80) 2 := rfl
  refine KIload_n C dX6_put_5 rfl 1 rfl ?_
  refine KCallS (As := [.int (iI p)]) (st := []) C (ct_X6_isProduct l g T p (⟨by omega, by omega⟩)) u_ml_RX6_90 u_st_yX6_isProduct u_in_RX6 u_co_yX6_isProduct hd_yX6_isProduct ⟨Nat.le_of_ble_eq_true rfl, Nat.le_of_ble_eq_true rfl⟩ ⟨Nat.le_of_ble_eq_true rfl, Nat.le_of_ble_eq_true rfl⟩ (Nat.le_of_ble_eq_true rfl) dX6_put_6 rfl (fun v6 u6 hp6 => ?_)
  obtain ⟨⟨b6, rfl⟩ | ⟨b6, rfl⟩, rfl⟩ := hp6
  · refine KSt (st2 := [.int (iI 1)]) rfl ?_
    refine KIf_eq (tgt := 38) C dX6_put_9 (by decide) ⟨by omega, by omega⟩ (fun h => absurd h (by decide)) (fun _ => ?_)
    refine KIload_n C dX6_put_12 rfl 2 rfl ?_
    refine KIconst C dX6_put_13 ?_
    refine KAload_n C dX6_put_14 rfl 0 rfl ?_
    refine KGetI (S := T) C ul_X6 rfl (by decide) 1 1 rfl (by decide) rfl u_fl_RX6_50 (hT.at0 80 7) (v := sI T (q 80) 1) rfl dX6_put_15 (fun _ h => h) ?_
    have rb1 := hR.b (q 80) 1 (v := sI T (q 80) 1) rfl
    refine KIconst C dX6_put_18 ?_
    refine KIsub C dX6_put_19 ?_
    refine KCallS (As := [.int (iI a), .int (iI 0), .int (iI ((sI T (q 80) 1) - 1))]) (st := []) C (ct_X6_in l g T a 0 ((sI T (q 80) 1) - 1) (⟨by omega, by omega⟩) (⟨by omega, by omega⟩) (⟨by omega, by omega⟩)) u_ml_RX6_62 u_st_yX6_in u_in_RX6 u_co_yX6_in hd_yX6_in ⟨Nat.le_of_ble_eq_true rfl, Nat.le_of_ble_eq_true rfl⟩ ⟨Nat.le_of_ble_eq_true rfl, Nat.le_of_ble_eq_true rfl⟩ (Nat.le_of_ble_eq_true rfl) dX6_put_20 rfl (fun v20 u20 hp20 => ?_)
    obtain ⟨⟨b20, rfl⟩ | ⟨b20, rfl⟩, rfl⟩ := hp20
    · refine KSt (st2 := [.int (iI 1)]) rfl ?_
      refine KIf_eq (tgt := 38) C dX6_put_23 (by decide) ⟨by omega, by omega⟩ (fun h => absurd h (by decide)) (fun _ => ?_)
      refine KIload_n C dX6_put_26 rfl 3 rfl ?_
      refine KIconst C dX6_put_27 ?_
      refine KAload_n C dX6_put_28 rfl 0 rfl ?_
      refine KGetI (S := T) C ul_X6 rfl (by decide) 2 2 rfl (by decide) rfl u_fl_RX6_53 (hT.at0 80 7) (v := sI T (q 80) 2) rfl dX6_put_29 (fun _ h => h) ?_
      have rb2 := hR.b (q 80) 2 (v := sI T (q 80) 2) rfl
      refine KCallS (As := [.int (iI i), .int (iI 1), .int (iI (sI T (q 80) 2))]) (st := []) C (ct_X6_in l g T i 1 (sI T (q 80) 2) (⟨by omega, by omega⟩) (⟨by omega, by omega⟩) (⟨by omega, by omega⟩)) u_ml_RX6_62 u_st_yX6_in u_in_RX6 u_co_yX6_in hd_yX6_in ⟨Nat.le_of_ble_eq_true rfl, Nat.le_of_ble_eq_true rfl⟩ ⟨Nat.le_of_ble_eq_true rfl, Nat.le_of_ble_eq_true rfl⟩ (Nat.le_of_ble_eq_true rfl) dX6_put_32 rfl (fun v32 u32 hp32 => ?_)
      obtain ⟨⟨b32, rfl⟩ | ⟨b32, rfl⟩, rfl⟩ := hp32
      · refine KSt (st2 := [.int (iI 1)]) rfl ?_
        refine KIf_ne (tgt := 44) C dX6_put_35 (by decide) ⟨by omega, by omega⟩ (fun _ => ?_) (fun h => absurd h (by decide))
        refine KBipush C dX6_put_44 (by decide) ?_
        refine KIload_n C dX6_put_46 rfl 2 rfl ?_
        refine KImul C dX6_put_47 ?_
        refine KIload_n C dX6_put_48 rfl 3 rfl ?_
        refine KIadd C dX6_put_49 ?_
        refine KTop (congrArg iI (show (100 * a) + i = 100 * a + i from rfl)) ?_
        refine KIstore (lv' := [(4, .int (iI (100 * a + i))), (0, .ref (q 80)), (1, .int (iI p)), (2, .int (iI a)), (3, .int (iI i))]) C dX6_put_50 (by decide) rfl ?_
        refine KIconst C dX6_put_52 ?_
        refine KIstore (lv' := [(5, .int (iI 0)), (4, .int (iI (100 * a + i))), (0, .ref (q 80)), (1, .int (iI p)), (2, .int (iI a)), (3, .int (iI i))]) C dX6_put_53 (by decide) rfl ?_
        refine KIconst C dX6_put_55 ?_
        refine KIstore (lv' := [(6, .int (iI 0)), (5, .int (iI 0)), (4, .int (iI (100 * a + i))), (0, .ref (q 80)), (1, .int (iI p)), (2, .int (iI a)), (3, .int (iI i))]) C dX6_put_56 (by decide) rfl ?_
        refine KLv (lv' := [(0, .ref (q 80)), (1, .int (iI p)), (2, .int (iI a)), (3, .int (iI i)), (4, .int (iI (100 * a + i))), (5, .int (iI 0)), (6, .int (iI 0))]) [3, 4, 5, 6, 2, 1, 0] rfl ?_
        have loop58 : ∀ (nX : Nat) (n : Nat), 20 - n < nX → (n ≤ 20) → Wk pX l eX (rmK 3 0 0) sX mX argsX belowX methX cX (MQ belowX (QcG g (P_X6_put S q p a i)) argsX sX 0 0 (ge (gB g))) g 7 0 0 58 [(0, .ref (q 80)), (1, .int (iI p)), (2, .int (iI a)), (3, .int (iI i)), (4, .int (iI (100 * a + i))), (5, .int (iI (tkI (sI T (q 81)) p (100 * a + i) n))), (6, .int (iI (n : Int)))] [] T := by
          intro nX
          induction nX with
          | zero => intro n hm; exact absurd hm (Nat.not_lt_zero _)
          | succ nX ih58 =>
            intro n hm58 hn
            refine KRg (fun hR => ?_)
            have htk := tkI_b (sI T (q 81)) p (100 * a + i) n
            refine KIload C dX6_put_58 6 rfl ?_
            refine KBipush C dX6_put_60 (by decide) ?_
            refine KIcmp_ge (tgt := 101) C dX6_put_62 (by decide) ⟨by omega, by omega⟩ ⟨by omega, by omega⟩ (fun c62 => ?_) (fun c62 => ?_)
            · have hn20 : tkI (sI T (q 81)) p (100 * a + i) n = tkI (zP (sgM T q)) p (100 * a + i) 20 := by rw [show n = 20 by omega]; rfl
              have ezp : zP (sgM T q) p = sI T (q 81) p := rfl
              refine KIload C dX6_put_101 5 rfl ?_
              refine KIf_ne (tgt := 113) C dX6_put_103 (by decide) ⟨by omega, by omega⟩ (fun c103 => ?_) (fun c103 => ?_)
              · refine KAload_n C dX6_put_113 rfl 0 rfl ?_
                refine KIconst C dX6_put_114 ?_
                refine KCallV (As := [.int (iI 2)]) (b := q 80) (st := []) C (ct_X6_fails l g T q 2 hT (by omega)) u_ml_RX6_94 u_im_yX6_fails u_se_yX6_fails u_in_RX6 u_co_yX6_fails hd_yX6_fails (hT.at0 80 7) (by decide) rfl rfl ⟨Nat.le_of_ble_eq_true rfl, Nat.le_of_ble_eq_true rfl⟩ ⟨Nat.le_of_ble_eq_true rfl, Nat.le_of_ble_eq_true rfl⟩ (Nat.le_of_ble_eq_true rfl) dX6_put_115 rfl (fun v115 u115 hp115 => ?_)
                obtain ⟨rfl, rfl⟩ := hp115
                refine KSt (st2 := [.int (iI 0)]) rfl ?_
                refine KRg (fun hR => ?_)
                refine KIret C rfl rfl (by
                  first | exact hlift _ _ ⟨0, _, _, (by unfold oPut; (repeat' split) <;> first | rfl | omega), rfl, (MP.refl0 hCn h00)⟩ | exact hlift _ _ ⟨1, _, _, (by unfold oPut; (repeat' split) <;> first | rfl | omega), rfl, (MP.thr hT hCn 1)⟩ | exact hlift _ _ ⟨2, _, _, (by unfold oPut; (repeat' split) <;> first | rfl | omega), rfl, (MP.thr hT hCn 2)⟩ | exact hlift _ _ ⟨3, _, _, (by unfold oPut; (repeat' split) <;> first | rfl | omega), rfl, (MP.thr hT hCn 3)⟩) (by decide) (by decide) dX6_put_118
              · refine KAload_n C dX6_put_106 rfl 0 rfl ?_
                refine KGetI (S := T) C ul_X6 rfl (by decide) 13 13 rfl (by decide) rfl u_fl_RX6_69 (hT.at0 80 7) (v := ((zb (sgM T q) : Nat) : Int)) hc13 dX6_put_107 (fun _ h => h) ?_
                have rb3 := hR.b (q 80) 13 (v := ((zb (sgM T q) : Nat) : Int)) hc13
                refine KIf_le (tgt := 119) C dX6_put_110 (by decide) ⟨by omega, by omega⟩ (fun c110 => ?_) (fun c110 => ?_)
                · refine KAload_n C dX6_put_119 rfl 0 rfl ?_
                  refine KGetR (S := T) C ul_X6 rfl (by decide) 5 5 rfl (by decide) rfl u_fl_RX6_13 (hT.at0 80 7) (b := q 81) (hT.ptr 80 5 81) dX6_put_120 (fun _ h => h) ?_
                  refine KIload_n C dX6_put_123 rfl 1 rfl ?_
                  refine KIald (S := T)  (v := sI T (q 81) p) C 20 (hT.at0 81 20) (hT.ln0 81 20) ⟨by omega, by omega⟩ (by omega) rfl dX6_put_124 ?_
                  have rb4 := hR.b (q 81) p (v := sI T (q 81) p) rfl
                  refine KIstore (lv' := [(6, .int (iI (sI T (q 81) p))), (0, .ref (q 80)), (1, .int (iI p)), (2, .int (iI a)), (3, .int (iI i)), (4, .int (iI (100 * a + i))), (5, .int (iI (tkI (sI T (q 81)) p (100 * a + i) n)))]) C dX6_put_125 (by decide) rfl ?_
                  refine KAload_n C dX6_put_127 rfl 1 rfl ?_
                  refine KGetR (S := T) C ul_X6 rfl (by decide) 5 5 rfl (by decide) rfl u_fl_RX6_13 (hT.at0 80 7) (b := q 81) (hT.ptr 80 5 81) dX6_put_128 (fun _ h => h) ?_
                  refine KIload_n C dX6_put_131 rfl 2 rfl ?_
                  refine KIload C dX6_put_132 5 rfl ?_
                  refine KIast (S := T) C 20 (hT.at0 81 20) (hT.ln0 81 20) ⟨by omega, by omega⟩ (by omega) ⟨by omega, by omega⟩ dX6_put_134 ?_
                  refine KSto (S2 := wI T (row1 (sI T) (q 81) (upd1 (sI T (q 81)) p (100 * a + i)))) (congrArg (wI T) (up2_to_row1 _ _ _ _)) ?_
                  refine KIload C dX6_put_135 0 rfl ?_
                  refine KIret C rfl rfl (by
                    exact hlift _ _ ⟨0, zP (sgM T q) p, zuP (sgM T q) (upd1 (zP (sgM T q)) p (100 * a + i)), (by unfold oPut; (repeat' split) <;> first | rfl | omega), rfl, MP.rows0 (fun a ha => (funext fun _ => row1_ne _ _ _ (fun e9 => ha ⟨81, by omega, by omega, e9⟩))) ((row1_ne _ _ _ (hT.ne 80 81)).trans h00) ⟨(row1_ne _ _ _ (hT.ne 80 81)), (row1_ne _ _ _ (hT.ne 80 81)), (row1_ne _ _ _ (hT.ne 80 81)), (row1_ne _ _ _ (hT.ne 80 81))⟩ ⟨((row1_ne _ _ _ (hT.ne 80 81)).trans hc6), ((row1_ne _ _ _ (hT.ne 80 81)).trans hc13), (row1_ne _ _ _ (hT.ne 80 81)), rfl⟩ ⟨(funext fun _ => row1_same _ _ _ _), (funext fun _ => row1_ne _ _ _ (hT.ne 82 81)), (funext fun _ => row1_ne _ _ _ (hT.ne 83 81)), (funext fun _ => row1_ne _ _ _ (hT.ne 84 81)), (funext fun _ => row1_ne _ _ _ (hT.ne 85 81)), (funext fun _ => row1_ne _ _ _ (hT.ne 86 81)), (funext fun _ => row1_ne _ _ _ (hT.ne 87 81))⟩⟩) (by decide) (by decide) dX6_put_137
                · refine KAload_n C dX6_put_113 rfl 0 rfl ?_
                  refine KIconst C dX6_put_114 ?_
                  refine KCallV (As := [.int (iI 2)]) (b := q 80) (st := []) C (ct_X6_fails l g T q 2 hT (by omega)) u_ml_RX6_94 u_im_yX6_fails u_se_yX6_fails u_in_RX6 u_co_yX6_fails hd_yX6_fails (hT.at0 80 7) (by decide) rfl rfl ⟨Nat.le_of_ble_eq_true rfl, Nat.le_of_ble_eq_true rfl⟩ ⟨Nat.le_of_ble_eq_true rfl, Nat.le_of_ble_eq_true rfl⟩ (Nat.le_of_ble_eq_true rfl) dX6_put_115 rfl (fun v115 u115 hp115 => ?_)
                  obtain ⟨rfl, rfl⟩ := hp115
                  refine KSt (st2 := [.int (iI 0)]) rfl ?_
                  refine KRg (fun hR => ?_)
                  refine KIret C rfl rfl (by
                    first | exact hlift _ _ ⟨0, _, _, (by unfold oPut; (repeat' split) <;> first | rfl | omega), rfl, (MP.refl0 hCn h00)⟩ | exact hlift _ _ ⟨1, _, _, (by unfold oPut; (repeat' split) <;> first | rfl | omega), rfl, (MP.thr hT hCn 1)⟩ | exact hlift _ _ ⟨2, _, _, (by unfold oPut; (repeat' split) <;> first | rfl | omega), rfl, (MP.thr hT hCn 2)⟩ | exact hlift _ _ ⟨3, _, _, (by unfold oPut; (repeat' split) <;> first | rfl | omega), rfl, (MP.thr hT hCn 3)⟩) (by decide) (by decide) dX6_put_118
            · refine KIload C dX6_put_65 5 rfl ?_
              refine KIf_ne (tgt := 88) C dX6_put_67 (by decide) ⟨by omega, by omega⟩ (fun c67 => ?_) (fun c67 => ?_)
              · refine KIconst C dX6_put_88 ?_
                refine KGoto (tgt := 93) C dX6_put_89 (by decide) ?_
                refine KTop (congrArg iI (show 1 = tkI (sI T (q 81)) p (100 * a + i) (n + 1) from (by first | exact tkI_t (Or.inl (by omega)) | exact tkI_t (Or.inr ⟨by omega, by omega⟩) | exact tkI_f (by omega)))) ?_
                refine KIstore (lv' := [(5, .int (iI (tkI (sI T (q 81)) p (100 * a + i) (n + 1)))), (0, .ref (q 80)), (1, .int (iI p)), (2, .int (iI a)), (3, .int (iI i)), (4, .int (iI (100 * a + i))), (6, .int (iI (n : Int)))]) C dX6_put_93 (by decide) rfl ?_
                refine KIinc (v := ((n + 1 : Nat) : Int)) (lv' := [(6, .int (iI ((n + 1 : Nat) : Int))), (5, .int (iI (tkI (sI T (q 81)) p (100 * a + i) (n + 1)))), (0, .ref (q 80)), (1, .int (iI p)), (2, .int (iI a)), (3, .int (iI i)), (4, .int (iI (100 * a + i)))]) C dX6_put_95 6 rfl (by omega) (by decide) rfl ?_
                refine KGoto (tgt := 58) C dX6_put_98 (by decide) ?_
                refine KLv (lv' := [(0, .ref (q 80)), (1, .int (iI p)), (2, .int (iI a)), (3, .int (iI i)), (4, .int (iI (100 * a + i))), (5, .int (iI (tkI (sI T (q 81)) p (100 * a + i) (n + 1)))), (6, .int (iI ((n + 1 : Nat) : Int)))]) [2, 3, 4, 5, 6, 1, 0] rfl ?_
                exact ih58 (n + 1) (by omega) (by omega)
              · refine KIload C dX6_put_70 6 rfl ?_
                refine KIload_n C dX6_put_72 rfl 1 rfl ?_
                refine KIcmp_eq (tgt := 92) C dX6_put_73 (by decide) ⟨by omega, by omega⟩ ⟨by omega, by omega⟩ (fun c73 => ?_) (fun c73 => ?_)
                · refine KIconst C dX6_put_92 ?_
                  refine KTop (congrArg iI (show 0 = tkI (sI T (q 81)) p (100 * a + i) (n + 1) from (by first | exact tkI_t (Or.inl (by omega)) | exact tkI_t (Or.inr ⟨by omega, by omega⟩) | exact tkI_f (by omega)))) ?_
                  refine KIstore (lv' := [(5, .int (iI (tkI (sI T (q 81)) p (100 * a + i) (n + 1)))), (0, .ref (q 80)), (1, .int (iI p)), (2, .int (iI a)), (3, .int (iI i)), (4, .int (iI (100 * a + i))), (6, .int (iI (n : Int)))]) C dX6_put_93 (by decide) rfl ?_
                  refine KIinc (v := ((n + 1 : Nat) : Int)) (lv' := [(6, .int (iI ((n + 1 : Nat) : Int))), (5, .int (iI (tkI (sI T (q 81)) p (100 * a + i) (n + 1)))), (0, .ref (q 80)), (1, .int (iI p)), (2, .int (iI a)), (3, .int (iI i)), (4, .int (iI (100 * a + i)))]) C dX6_put_95 6 rfl (by omega) (by decide) rfl ?_
                  refine KGoto (tgt := 58) C dX6_put_98 (by decide) ?_
                  refine KLv (lv' := [(0, .ref (q 80)), (1, .int (iI p)), (2, .int (iI a)), (3, .int (iI i)), (4, .int (iI (100 * a + i))), (5, .int (iI (tkI (sI T (q 81)) p (100 * a + i) (n + 1)))), (6, .int (iI ((n + 1 : Nat) : Int)))]) [2, 3, 4, 5, 6, 1, 0] rfl ?_
                  exact ih58 (n + 1) (by omega) (by omega)
                · refine KAload_n C dX6_put_76 rfl 0 rfl ?_
                  refine KGetR (S := T) C ul_X6 rfl (by decide) 5 5 rfl (by decide) rfl u_fl_RX6_13 (hT.at0 80 7) (b := q 81) (hT.ptr 80 5 81) dX6_put_77 (fun _ h => h) ?_
                  refine KIload C dX6_put_80 6 rfl ?_
                  refine KIald (S := T)  (v := sI T (q 81) (n : Int)) C 20 (hT.at0 81 20) (hT.ln0 81 20) ⟨by omega, by omega⟩ (by omega) rfl dX6_put_82 ?_
                  have rb5 := hR.b (q 81) (n : Int) (v := sI T (q 81) (n : Int)) rfl
                  refine KIload C dX6_put_83 4 rfl ?_
                  refine KIcmp_ne (tgt := 92) C dX6_put_85 (by decide) ⟨by omega, by omega⟩ ⟨by omega, by omega⟩ (fun c85 => ?_) (fun c85 => ?_)
                  · refine KIconst C dX6_put_92 ?_
                    refine KTop (congrArg iI (show 0 = tkI (sI T (q 81)) p (100 * a + i) (n + 1) from (by first | exact tkI_t (Or.inl (by omega)) | exact tkI_t (Or.inr ⟨by omega, by omega⟩) | exact tkI_f (by omega)))) ?_
                    refine KIstore (lv' := [(5, .int (iI (tkI (sI T (q 81)) p (100 * a + i) (n + 1)))), (0, .ref (q 80)), (1, .int (iI p)), (2, .int (iI a)), (3, .int (iI i)), (4, .int (iI (100 * a + i))), (6, .int (iI (n : Int)))]) C dX6_put_93 (by decide) rfl ?_
                    refine KIinc (v := ((n + 1 : Nat) : Int)) (lv' := [(6, .int (iI ((n + 1 : Nat) : Int))), (5, .int (iI (tkI (sI T (q 81)) p (100 * a + i) (n + 1)))), (0, .ref (q 80)), (1, .int (iI p)), (2, .int (iI a)), (3, .int (iI i)), (4, .int (iI (100 * a + i)))]) C dX6_put_95 6 rfl (by omega) (by decide) rfl ?_
                    refine KGoto (tgt := 58) C dX6_put_98 (by decide) ?_
                    refine KLv (lv' := [(0, .ref (q 80)), (1, .int (iI p)), (2, .int (iI a)), (3, .int (iI i)), (4, .int (iI (100 * a + i))), (5, .int (iI (tkI (sI T (q 81)) p (100 * a + i) (n + 1)))), (6, .int (iI ((n + 1 : Nat) : Int)))]) [2, 3, 4, 5, 6, 1, 0] rfl ?_
                    exact ih58 (n + 1) (by omega) (by omega)
                  · refine KIconst C dX6_put_88 ?_
                    refine KGoto (tgt := 93) C dX6_put_89 (by decide) ?_
                    refine KTop (congrArg iI (show 1 = tkI (sI T (q 81)) p (100 * a + i) (n + 1) from (by first | exact tkI_t (Or.inl (by omega)) | exact tkI_t (Or.inr ⟨by omega, by omega⟩) | exact tkI_f (by omega)))) ?_
                    refine KIstore (lv' := [(5, .int (iI (tkI (sI T (q 81)) p (100 * a + i) (n + 1)))), (0, .ref (q 80)), (1, .int (iI p)), (2, .int (iI a)), (3, .int (iI i)), (4, .int (iI (100 * a + i))), (6, .int (iI (n : Int)))]) C dX6_put_93 (by decide) rfl ?_
                    refine KIinc (v := ((n + 1 : Nat) : Int)) (lv' := [(6, .int (iI ((n + 1 : Nat) : Int))), (5, .int (iI (tkI (sI T (q 81)) p (100 * a + i) (n + 1)))), (0, .ref (q 80)), (1, .int (iI p)), (2, .int (iI a)), (3, .int (iI i)), (4, .int (iI (100 * a + i)))]) C dX6_put_95 6 rfl (by omega) (by decide) rfl ?_
                    refine KGoto (tgt := 58) C dX6_put_98 (by decide) ?_
                    refine KLv (lv' := [(0, .ref (q 80)), (1, .int (iI p)), (2, .int (iI a)), (3, .int (iI i)), (4, .int (iI (100 * a + i))), (5, .int (iI (tkI (sI T (q 81)) p (100 * a + i) (n + 1)))), (6, .int (iI ((n + 1 : Nat) : Int)))]) [2, 3, 4, 5, 6, 1, 0] rfl ?_
                    exact ih58 (n + 1) (by omega) (by omega)
        exact loop58 _ 0 (Nat.lt_succ_self _) (by omega)
      · refine KSt (st2 := [.int (iI 0)]) rfl ?_
        refine KIf_ne (tgt := 44) C dX6_put_35 (by decide) ⟨by omega, by omega⟩ (fun h => absurd h (by decide)) (fun _ => ?_)
        refine KAload_n C dX6_put_38 rfl 0 rfl ?_
        refine KIconst C dX6_put_39 ?_
        refine KCallV (As := [.int (iI 1)]) (b := q 80) (st := []) C (ct_X6_fails l g T q 1 hT (by omega)) u_ml_RX6_94 u_im_yX6_fails u_se_yX6_fails u_in_RX6 u_co_yX6_fails hd_yX6_fails (hT.at0 80 7) (by decide) rfl rfl ⟨Nat.le_of_ble_eq_true rfl, Nat.le_of_ble_eq_true rfl⟩ ⟨Nat.le_of_ble_eq_true rfl, Nat.le_of_ble_eq_true rfl⟩ (Nat.le_of_ble_eq_true rfl) dX6_put_40 rfl (fun v40 u40 hp40 => ?_)
        obtain ⟨rfl, rfl⟩ := hp40
        refine KSt (st2 := [.int (iI 0)]) rfl ?_
        refine KRg (fun hR => ?_)
        refine KIret C rfl rfl (by
          first | exact hlift _ _ ⟨0, _, _, (by unfold oPut; (repeat' split) <;> first | rfl | omega), rfl, (MP.refl0 hCn h00)⟩ | exact hlift _ _ ⟨1, _, _, (by unfold oPut; (repeat' split) <;> first | rfl | omega), rfl, (MP.thr hT hCn 1)⟩ | exact hlift _ _ ⟨2, _, _, (by unfold oPut; (repeat' split) <;> first | rfl | omega), rfl, (MP.thr hT hCn 2)⟩ | exact hlift _ _ ⟨3, _, _, (by unfold oPut; (repeat' split) <;> first | rfl | omega), rfl, (MP.thr hT hCn 3)⟩) (by decide) (by decide) dX6_put_43
    · refine KSt (st2 := [.int (iI 0)]) rfl ?_
      refine KIf_eq (tgt := 38) C dX6_put_23 (by decide) ⟨by omega, by omega⟩ (fun _ => ?_) (fun h => absurd h (by decide))
      refine KAload_n C dX6_put_38 rfl 0 rfl ?_
      refine KIconst C dX6_put_39 ?_
      refine KCallV (As := [.int (iI 1)]) (b := q 80) (st := []) C (ct_X6_fails l g T q 1 hT (by omega)) u_ml_RX6_94 u_im_yX6_fails u_se_yX6_fails u_in_RX6 u_co_yX6_fails hd_yX6_fails (hT.at0 80 7) (by decide) rfl rfl ⟨Nat.le_of_ble_eq_true rfl, Nat.le_of_ble_eq_true rfl⟩ ⟨Nat.le_of_ble_eq_true rfl, Nat.le_of_ble_eq_true rfl⟩ (Nat.le_of_ble_eq_true rfl) dX6_put_40 rfl (fun v40 u40 hp40 => ?_)
      obtain ⟨rfl, rfl⟩ := hp40
      refine KSt (st2 := [.int (iI 0)]) rfl ?_
      refine KRg (fun hR => ?_)
      refine KIret C rfl rfl (by
        first | exact hlift _ _ ⟨0, _, _, (by unfold oPut; (repeat' split) <;> first | rfl | omega), rfl, (MP.refl0 hCn h00)⟩ | exact hlift _ _ ⟨1, _, _, (by unfold oPut; (repeat' split) <;> first | rfl | omega), rfl, (MP.thr hT hCn 1)⟩ | exact hlift _ _ ⟨2, _, _, (by unfold oPut; (repeat' split) <;> first | rfl | omega), rfl, (MP.thr hT hCn 2)⟩ | exact hlift _ _ ⟨3, _, _, (by unfold oPut; (repeat' split) <;> first | rfl | omega), rfl, (MP.thr hT hCn 3)⟩) (by decide) (by decide) dX6_put_43
  · refine KSt (st2 := [.int (iI 0)]) rfl ?_
    refine KIf_eq (tgt := 38) C dX6_put_9 (by decide) ⟨by omega, by omega⟩ (fun _ => ?_) (fun h => absurd h (by decide))
    refine KAload_n C dX6_put_38 rfl 0 rfl ?_
    refine KIconst C dX6_put_39 ?_
    refine KCallV (As := [.int (iI 1)]) (b := q 80) (st := []) C (ct_X6_fails l g T q 1 hT (by omega)) u_ml_RX6_94 u_im_yX6_fails u_se_yX6_fails u_in_RX6 u_co_yX6_fails hd_yX6_fails (hT.at0 80 7) (by decide) rfl rfl ⟨Nat.le_of_ble_eq_true rfl, Nat.le_of_ble_eq_true rfl⟩ ⟨Nat.le_of_ble_eq_true rfl, Nat.le_of_ble_eq_true rfl⟩ (Nat.le_of_ble_eq_true rfl) dX6_put_40 rfl (fun v40 u40 hp40 => ?_)
    obtain ⟨rfl, rfl⟩ := hp40
    refine KSt (st2 := [.int (iI 0)]) rfl ?_
    refine KRg (fun hR => ?_)
    refine KIret C rfl rfl (by
      first | exact hlift _ _ ⟨0, _, _, (by unfold oPut; (repeat' split) <;> first | rfl | omega), rfl, (MP.refl0 hCn h00)⟩ | exact hlift _ _ ⟨1, _, _, (by unfold oPut; (repeat' split) <;> first | rfl | omega), rfl, (MP.thr hT hCn 1)⟩ | exact hlift _ _ ⟨2, _, _, (by unfold oPut; (repeat' split) <;> first | rfl | omega), rfl, (MP.thr hT hCn 2)⟩ | exact hlift _ _ ⟨3, _, _, (by unfold oPut; (repeat' split) <;> first | rfl | omega), rfl, (MP.thr hT hCn 3)⟩) (by decide) (by decide) dX6_put_43
def P_X6_order (S : Sto) (q : Nat → Nat) (t : Int) : Option Value → Sto → Prop := fun v u => ∃ c r z', oOrd (sgM S q) t = (c, r, z') ∧ v = some (.int (iI r)) ∧ MP S q u c z'
set_option maxRecDepth 100000 in
set_option maxHeartbeats 4000000 in
theorem ct_X6_order (l : Launch) (g : GG) (S : Sto) (q : Nat → Nat) (t : Int) (hT : Top S q) (hW : Wf (sgM S q)) (hCn : Cn S q) (hit : inR t) : MetS l g yX6_order cX6_order 2 (some FieldType.int) 3 0 0 [.ref (q 80), .int (iI t)] S (P_X6_order S q t) := by
  refine MetS.of (own := RX6) (lv := [(0, .ref (q 80)), (1, .int (iI t))]) (by decide) rfl (Nat.le_of_ble_eq_true rfl) rfl ?_
  intro pX eX sX mX argsX belowX methX cX C hin
  refine KRg (fun hR => ?_)
  obtain ⟨t1, t2⟩ := id hit
  refine KAload_n C dX6_order_0 rfl 0 rfl ?_
  refine KIconst C dX6_order_1 ?_
  obtain ⟨T, hTT, hT9, hW, hCn, h00, hz, hM⟩ := MP.start hT hW hCn
  refine KPutI (ty := .int) (v := 0) C ul_X6 rfl (by decide) 0 0 rfl (by decide) rfl u_fl_RX6_59 tyX6 tyX6_ok nmX6 (hT.at0 80 7) ⟨by omega, by omega⟩ (by decide +kernel) rfl rfl rfl dX6_order_2 (fun _ h => h) ?_
  refine KSto (S2 := T) hTT.symm ?_
  have hT := hT9
  have hlift : ∀ v u, P_X6_order T q t v u → P_X6_order S q t v u := fun v u ⟨c, r, z', h1, h2, h3⟩ => ⟨c, r, z', hz ▸ h1, h2, hM.trans h3⟩
  refine KRg (fun hR => ?_)
  obtain ⟨hc6, hc13⟩ := id hCn
  have hCm : CfM T q := hW.cf
  obtain ⟨hA1, hA2, hN1, hN2, hG1, hG2⟩ := id hCm
  obtain ⟨ho40, hbo⟩ := hW.2.1
  have ezA : zA (sgM T q) = sI T (q 80) 1 := rfl
  have ezN : zN (sgM T q) = sI T (q 80) 2 := rfl
  refine KIload_n C dX6_order_5 rfl 1 rfl ?_
  refine KIconst C dX6_order_6 ?_
  refine KSipush C dX6_order_7 (by decide) ?_
  refine KCallS (As := [.int (iI t), .int (iI 0), .int (iI 999)]) (st := []) C (ct_X6_in l g T t 0 999 (⟨by omega, by omega⟩) (⟨by omega, by omega⟩) (⟨by omega, by omega⟩)) u_ml_RX6_62 u_st_yX6_in u_in_RX6 u_co_yX6_in hd_yX6_in ⟨Nat.le_of_ble_eq_true rfl, Nat.le_of_ble_eq_true rfl⟩ ⟨Nat.le_of_ble_eq_true rfl, Nat.le_of_ble_eq_true rfl⟩ (Nat.le_of_ble_eq_true rfl) dX6_order_10 rfl (fun v10 u10 hp10 => ?_)
  obtain ⟨⟨b10, rfl⟩ | ⟨b10, rfl⟩, rfl⟩ := hp10
  · refine KSt (st2 := [.int (iI 1)]) rfl ?_
    refine KIf_ne (tgt := 22) C dX6_order_13 (by decide) ⟨by omega, by omega⟩ (fun _ => ?_) (fun h => absurd h (by decide))
    refine KAload_n C dX6_order_22 rfl 0 rfl ?_
    refine KGetI (S := T) C ul_X6 rfl (by decide) 6 6 rfl (by decide) rfl u_fl_RX6_66 (hT.at0 80 7) (v := ((zo (sgM T q) : Nat) : Int)) hc6 dX6_order_23 (fun _ h => h) ?_
    have rb1 := hR.b (q 80) 6 (v := ((zo (sgM T q) : Nat) : Int)) hc6
    refine KBipush C dX6_order_26 (by decide) ?_
    refine KIcmp_ne (tgt := 37) C dX6_order_28 (by decide) ⟨by omega, by omega⟩ ⟨by omega, by omega⟩ (fun c28 => ?_) (fun c28 => ?_)
    · refine KAload_n C dX6_order_37 rfl 0 rfl ?_
      refine KGetR (S := T) C ul_X6 rfl (by decide) 7 7 rfl (by decide) rfl u_fl_RX6_17 (hT.at0 80 7) (b := q 82) (hT.ptr 80 7 82) dX6_order_38 (fun _ h => h) ?_
      refine KAload_n C dX6_order_41 rfl 0 rfl ?_
      refine KGetI (S := T) C ul_X6 rfl (by decide) 6 6 rfl (by decide) rfl u_fl_RX6_66 (hT.at0 80 7) (v := ((zo (sgM T q) : Nat) : Int)) hc6 dX6_order_42 (fun _ h => h) ?_
      have rb2 := hR.b (q 80) 6 (v := ((zo (sgM T q) : Nat) : Int)) hc6
      refine KIload_n C dX6_order_45 rfl 1 rfl ?_
      refine KIast (S := T) C 40 (hT.at0 82 20) (hT.ln0 82 40) ⟨by omega, by omega⟩ (by omega) ⟨by omega, by omega⟩ dX6_order_46 ?_
      refine KSto (S2 := wI T (row1 (sI T) (q 82) (upd1 (sI T (q 82)) (zo (sgM T q) : Int) t))) (congrArg (wI T) (up2_to_row1 _ _ _ _)) ?_
      refine KAload_n C dX6_order_47 rfl 0 rfl ?_
      refine KGetR (S := wI T (row1 (sI T) (q 82) (upd1 (sI T (q 82)) (zo (sgM T q) : Int) t))) C ul_X6 rfl (by decide) 8 8 rfl (by decide) rfl u_fl_RX6_20 (hT.at0 80 7) (b := q 83) (hT.ptr 80 8 83) dX6_order_48 (fun _ h => h) ?_
      refine KAload_n C dX6_order_51 rfl 0 rfl ?_
      refine KGetI (S := wI T (row1 (sI T) (q 82) (upd1 (sI T (q 82)) (zo (sgM T q) : Int) t))) C ul_X6 rfl (by decide) 6 6 rfl (by decide) rfl u_fl_RX6_66 (hT.at0 80 7) (v := ((zo (sgM T q) : Nat) : Int)) ((row1_ne _ _ _ (hT.ne 80 82)).trans hc6) dX6_order_52 (fun _ h => h) ?_
      refine KIconst C dX6_order_55 ?_
      refine KIast (S := wI T (row1 (sI T) (q 82) (upd1 (sI T (q 82)) (zo (sgM T q) : Int) t))) C 40 (hT.at0 83 20) (hT.ln0 83 40) ⟨by omega, by omega⟩ (by omega) ⟨by omega, by omega⟩ dX6_order_56 ?_
      refine KSto (S2 := wI T (row1 (row1 (sI T) (q 82) (upd1 (sI T (q 82)) (zo (sgM T q) : Int) t)) (q 83) (upd1 (sI T (q 83)) (zo (sgM T q) : Int) 0))) (congrArg (wI T) ((up2_to_row1 _ _ _ _).trans (congrArg (fun zz => row1 _ (q 83) (upd1 zz _ _)) (funext fun _ => row1_ne _ _ _ (hT.ne 83 82))))) ?_
      refine KAload_n C dX6_order_57 rfl 0 rfl ?_
      refine KGetR (S := wI T (row1 (row1 (sI T) (q 82) (upd1 (sI T (q 82)) (zo (sgM T q) : Int) t)) (q 83) (upd1 (sI T (q 83)) (zo (sgM T q) : Int) 0))) C ul_X6 rfl (by decide) 9 9 rfl (by decide) rfl u_fl_RX6_23 (hT.at0 80 7) (b := q 84) (hT.ptr 80 9 84) dX6_order_58 (fun _ h => h) ?_
      refine KAload_n C dX6_order_61 rfl 0 rfl ?_
      refine KGetI (S := wI T (row1 (row1 (sI T) (q 82) (upd1 (sI T (q 82)) (zo (sgM T q) : Int) t)) (q 83) (upd1 (sI T (q 83)) (zo (sgM T q) : Int) 0))) C ul_X6 rfl (by decide) 6 6 rfl (by decide) rfl u_fl_RX6_66 (hT.at0 80 7) (v := ((zo (sgM T q) : Nat) : Int)) ((row1_ne _ _ _ (hT.ne 80 83)).trans ((row1_ne _ _ _ (hT.ne 80 82)).trans hc6)) dX6_order_62 (fun _ h => h) ?_
      refine KIconst C dX6_order_65 ?_
      refine KIast (S := wI T (row1 (row1 (sI T) (q 82) (upd1 (sI T (q 82)) (zo (sgM T q) : Int) t)) (q 83) (upd1 (sI T (q 83)) (zo (sgM T q) : Int) 0))) C 40 (hT.at0 84 20) (hT.ln0 84 40) ⟨by omega, by omega⟩ (by omega) ⟨by omega, by omega⟩ dX6_order_66 ?_
      refine KSto (S2 := wI T (row1 (row1 (row1 (sI T) (q 82) (upd1 (sI T (q 82)) (zo (sgM T q) : Int) t)) (q 83) (upd1 (sI T (q 83)) (zo (sgM T q) : Int) 0)) (q 84) (upd1 (sI T (q 84)) (zo (sgM T q) : Int) (-1)))) (congrArg (wI T) ((up2_to_row1 _ _ _ _).trans (congrArg (fun zz => row1 _ (q 84) (upd1 zz _ _)) (funext fun _ => (row1_ne _ _ _ (hT.ne 84 83)).trans (row1_ne _ _ _ (hT.ne 84 82)))))) ?_
      refine KAload_n C dX6_order_67 rfl 0 rfl ?_
      refine KGetR (S := wI T (row1 (row1 (row1 (sI T) (q 82) (upd1 (sI T (q 82)) (zo (sgM T q) : Int) t)) (q 83) (upd1 (sI T (q 83)) (zo (sgM T q) : Int) 0)) (q 84) (upd1 (sI T (q 84)) (zo (sgM T q) : Int) (-1)))) C ul_X6 rfl (by decide) 10 10 rfl (by decide) rfl u_fl_RX6_26 (hT.at0 80 7) (b := q 85) (hT.ptr 80 10 85) dX6_order_68 (fun _ h => h) ?_
      refine KAload_n C dX6_order_71 rfl 0 rfl ?_
      refine KGetI (S := wI T (row1 (row1 (row1 (sI T) (q 82) (upd1 (sI T (q 82)) (zo (sgM T q) : Int) t)) (q 83) (upd1 (sI T (q 83)) (zo (sgM T q) : Int) 0)) (q 84) (upd1 (sI T (q 84)) (zo (sgM T q) : Int) (-1)))) C ul_X6 rfl (by decide) 6 6 rfl (by decide) rfl u_fl_RX6_66 (hT.at0 80 7) (v := ((zo (sgM T q) : Nat) : Int)) ((row1_ne _ _ _ (hT.ne 80 84)).trans ((row1_ne _ _ _ (hT.ne 80 83)).trans ((row1_ne _ _ _ (hT.ne 80 82)).trans hc6))) dX6_order_72 (fun _ h => h) ?_
      refine KIconst C dX6_order_75 ?_
      refine KIast (S := wI T (row1 (row1 (row1 (sI T) (q 82) (upd1 (sI T (q 82)) (zo (sgM T q) : Int) t)) (q 83) (upd1 (sI T (q 83)) (zo (sgM T q) : Int) 0)) (q 84) (upd1 (sI T (q 84)) (zo (sgM T q) : Int) (-1)))) C 40 (hT.at0 85 20) (hT.ln0 85 40) ⟨by omega, by omega⟩ (by omega) ⟨by omega, by omega⟩ dX6_order_76 ?_
      refine KSto (S2 := wI T (row1 (row1 (row1 (row1 (sI T) (q 82) (upd1 (sI T (q 82)) (zo (sgM T q) : Int) t)) (q 83) (upd1 (sI T (q 83)) (zo (sgM T q) : Int) 0)) (q 84) (upd1 (sI T (q 84)) (zo (sgM T q) : Int) (-1))) (q 85) (upd1 (sI T (q 85)) (zo (sgM T q) : Int) 0))) (congrArg (wI T) ((up2_to_row1 _ _ _ _).trans (congrArg (fun zz => row1 _ (q 85) (upd1 zz _ _)) (funext fun _ => (row1_ne _ _ _ (hT.ne 85 84)).trans ((row1_ne _ _ _ (hT.ne 85 83)).trans (row1_ne _ _ _ (hT.ne 85 82))))))) ?_
      refine KAload_n C dX6_order_77 rfl 0 rfl ?_
      refine KDup C dX6_order_78 rfl ?_
      refine KGetI (S := wI T (row1 (row1 (row1 (row1 (sI T) (q 82) (upd1 (sI T (q 82)) (zo (sgM T q) : Int) t)) (q 83) (upd1 (sI T (q 83)) (zo (sgM T q) : Int) 0)) (q 84) (upd1 (sI T (q 84)) (zo (sgM T q) : Int) (-1))) (q 85) (upd1 (sI T (q 85)) (zo (sgM T q) : Int) 0))) C ul_X6 rfl (by decide) 6 6 rfl (by decide) rfl u_fl_RX6_66 (hT.at0 80 7) (v := ((zo (sgM T q) : Nat) : Int)) ((row1_ne _ _ _ (hT.ne 80 85)).trans ((row1_ne _ _ _ (hT.ne 80 84)).trans ((row1_ne _ _ _ (hT.ne 80 83)).trans ((row1_ne _ _ _ (hT.ne 80 82)).trans hc6)))) dX6_order_79 (fun _ h => h) ?_
      refine KIconst C dX6_order_82 ?_
      refine KIadd C dX6_order_83 ?_
      refine KPutI (S := wI T (row1 (row1 (row1 (row1 (sI T) (q 82) (upd1 (sI T (q 82)) (zo (sgM T q) : Int) t)) (q 83) (upd1 (sI T (q 83)) (zo (sgM T q) : Int) 0)) (q 84) (upd1 (sI T (q 84)) (zo (sgM T q) : Int) (-1))) (q 85) (upd1 (sI T (q 85)) (zo (sgM T q) : Int) 0))) (ty := .int) (v := ((zo (sgM T q) : Nat) : Int) + 1) C ul_X6 rfl (by decide) 6 6 rfl (by decide) rfl u_fl_RX6_66 tyX6 tyX6_ok nmX6 (hT.at0 80 7) ⟨by omega, by omega⟩ (by decide +kernel) rfl rfl rfl dX6_order_84 (fun _ h => h) ?_
      refine KAload_n C dX6_order_87 rfl 0 rfl ?_
      refine KGetI (S := uI (wI T (row1 (row1 (row1 (row1 (sI T) (q 82) (upd1 (sI T (q 82)) (zo (sgM T q) : Int) t)) (q 83) (upd1 (sI T (q 83)) (zo (sgM T q) : Int) 0)) (q 84) (upd1 (sI T (q 84)) (zo (sgM T q) : Int) (-1))) (q 85) (upd1 (sI T (q 85)) (zo (sgM T q) : Int) 0))) (q 80) 6 (((zo (sgM T q) : Nat) : Int) + 1)) C ul_X6 rfl (by decide) 6 6 rfl (by decide) rfl u_fl_RX6_66 (hT.at0 80 7) (v := ((zo (sgM T q) : Nat) : Int) + 1) (up2_same _ _ _ _) dX6_order_88 (fun _ h => h) ?_
      refine KIconst C dX6_order_91 ?_
      refine KIsub C dX6_order_92 ?_
      refine KTop (congrArg iI (show (((zo (sgM T q) : Nat) : Int) + 1) - 1 = ((zo (sgM T q) : Nat) : Int) from (by omega))) ?_
      refine KIret C rfl rfl (by
        exact hlift _ _ ⟨0, (zo (sgM T q) : Int), zord (sgM T q) t, (by unfold oOrd; (repeat' split) <;> first | rfl | omega), rfl, MP.rows0 (fun a ha => ((up2_row _ _ _ (fun e9 => ha ⟨80, by omega, by omega, e9⟩)).trans ((funext fun _ => row1_ne _ _ _ (fun e9 => ha ⟨85, by omega, by omega, e9⟩)).trans ((funext fun _ => row1_ne _ _ _ (fun e9 => ha ⟨84, by omega, by omega, e9⟩)).trans ((funext fun _ => row1_ne _ _ _ (fun e9 => ha ⟨83, by omega, by omega, e9⟩)).trans (funext fun _ => row1_ne _ _ _ (fun e9 => ha ⟨82, by omega, by omega, e9⟩))))))) ((up2_nk _ _ _ _ (by decide)).trans ((row1_ne _ _ _ (hT.ne 80 85)).trans ((row1_ne _ _ _ (hT.ne 80 84)).trans ((row1_ne _ _ _ (hT.ne 80 83)).trans ((row1_ne _ _ _ (hT.ne 80 82)).trans h00))))) ⟨((up2_nk _ _ _ _ (by decide)).trans ((row1_ne _ _ _ (hT.ne 80 85)).trans ((row1_ne _ _ _ (hT.ne 80 84)).trans ((row1_ne _ _ _ (hT.ne 80 83)).trans (row1_ne _ _ _ (hT.ne 80 82)))))), ((up2_nk _ _ _ _ (by decide)).trans ((row1_ne _ _ _ (hT.ne 80 85)).trans ((row1_ne _ _ _ (hT.ne 80 84)).trans ((row1_ne _ _ _ (hT.ne 80 83)).trans (row1_ne _ _ _ (hT.ne 80 82)))))), ((up2_nk _ _ _ _ (by decide)).trans ((row1_ne _ _ _ (hT.ne 80 85)).trans ((row1_ne _ _ _ (hT.ne 80 84)).trans ((row1_ne _ _ _ (hT.ne 80 83)).trans (row1_ne _ _ _ (hT.ne 80 82)))))), ((up2_nk _ _ _ _ (by decide)).trans ((row1_ne _ _ _ (hT.ne 80 85)).trans ((row1_ne _ _ _ (hT.ne 80 84)).trans ((row1_ne _ _ _ (hT.ne 80 83)).trans (row1_ne _ _ _ (hT.ne 80 82))))))⟩ ⟨(up2_same _ _ _ _), ((up2_nk _ _ _ _ (by decide)).trans ((row1_ne _ _ _ (hT.ne 80 85)).trans ((row1_ne _ _ _ (hT.ne 80 84)).trans ((row1_ne _ _ _ (hT.ne 80 83)).trans ((row1_ne _ _ _ (hT.ne 80 82)).trans hc13))))), ((up2_nk _ _ _ _ (by decide)).trans ((row1_ne _ _ _ (hT.ne 80 85)).trans ((row1_ne _ _ _ (hT.ne 80 84)).trans ((row1_ne _ _ _ (hT.ne 80 83)).trans (row1_ne _ _ _ (hT.ne 80 82)))))), rfl⟩ ⟨((up2_row _ _ _ (hT.ne 81 80)).trans ((funext fun _ => row1_ne _ _ _ (hT.ne 81 85)).trans ((funext fun _ => row1_ne _ _ _ (hT.ne 81 84)).trans ((funext fun _ => row1_ne _ _ _ (hT.ne 81 83)).trans (funext fun _ => row1_ne _ _ _ (hT.ne 81 82)))))), ((up2_row _ _ _ (hT.ne 82 80)).trans ((funext fun _ => row1_ne _ _ _ (hT.ne 82 85)).trans ((funext fun _ => row1_ne _ _ _ (hT.ne 82 84)).trans ((funext fun _ => row1_ne _ _ _ (hT.ne 82 83)).trans (funext fun _ => row1_same _ _ _ _))))), ((up2_row _ _ _ (hT.ne 83 80)).trans ((funext fun _ => row1_ne _ _ _ (hT.ne 83 85)).trans ((funext fun _ => row1_ne _ _ _ (hT.ne 83 84)).trans (funext fun _ => row1_same _ _ _ _)))), ((up2_row _ _ _ (hT.ne 84 80)).trans ((funext fun _ => row1_ne _ _ _ (hT.ne 84 85)).trans (funext fun _ => row1_same _ _ _ _))), ((up2_row _ _ _ (hT.ne 85 80)).trans (funext fun _ => row1_same _ _ _ _)), ((up2_row _ _ _ (hT.ne 86 80)).trans ((funext fun _ => row1_ne _ _ _ (hT.ne 86 85)).trans ((funext fun _ => row1_ne _ _ _ (hT.ne 86 84)).trans ((funext fun _ => row1_ne _ _ _ (hT.ne 86 83)).trans (funext fun _ => row1_ne _ _ _ (hT.ne 86 82)))))), ((up2_row _ _ _ (hT.ne 87 80)).trans ((funext fun _ => row1_ne _ _ _ (hT.ne 87 85)).trans ((funext fun _ => row1_ne _ _ _ (hT.ne 87 84)).trans ((funext fun _ => row1_ne _ _ _ (hT.ne 87 83)).trans (funext fun _ => row1_ne _ _ _ (hT.ne 87 82))))))⟩⟩) (by decide) (by decide) dX6_order_93
    · refine KAload_n C dX6_order_31 rfl 0 rfl ?_
      refine KIconst C dX6_order_32 ?_
      refine KCallV (As := [.int (iI 2)]) (b := q 80) (st := []) C (ct_X6_fails l g T q 2 hT (by omega)) u_ml_RX6_94 u_im_yX6_fails u_se_yX6_fails u_in_RX6 u_co_yX6_fails hd_yX6_fails (hT.at0 80 7) (by decide) rfl rfl ⟨Nat.le_of_ble_eq_true rfl, Nat.le_of_ble_eq_true rfl⟩ ⟨Nat.le_of_ble_eq_true rfl, Nat.le_of_ble_eq_true rfl⟩ (Nat.le_of_ble_eq_true rfl) dX6_order_33 rfl (fun v33 u33 hp33 => ?_)
      obtain ⟨rfl, rfl⟩ := hp33
      refine KSt (st2 := [.int (iI 0)]) rfl ?_
      refine KRg (fun hR => ?_)
      refine KIret C rfl rfl (by
        first | exact hlift _ _ ⟨0, _, _, (by unfold oOrd; (repeat' split) <;> first | rfl | omega), rfl, (MP.refl0 hCn h00)⟩ | exact hlift _ _ ⟨1, _, _, (by unfold oOrd; (repeat' split) <;> first | rfl | omega), rfl, (MP.thr hT hCn 1)⟩ | exact hlift _ _ ⟨2, _, _, (by unfold oOrd; (repeat' split) <;> first | rfl | omega), rfl, (MP.thr hT hCn 2)⟩ | exact hlift _ _ ⟨3, _, _, (by unfold oOrd; (repeat' split) <;> first | rfl | omega), rfl, (MP.thr hT hCn 3)⟩) (by decide) (by decide) dX6_order_36
  · refine KSt (st2 := [.int (iI 0)]) rfl ?_
    refine KIf_ne (tgt := 22) C dX6_order_13 (by decide) ⟨by omega, by omega⟩ (fun h => absurd h (by decide)) (fun _ => ?_)
    refine KAload_n C dX6_order_16 rfl 0 rfl ?_
    refine KIconst C dX6_order_17 ?_
    refine KCallV (As := [.int (iI 1)]) (b := q 80) (st := []) C (ct_X6_fails l g T q 1 hT (by omega)) u_ml_RX6_94 u_im_yX6_fails u_se_yX6_fails u_in_RX6 u_co_yX6_fails hd_yX6_fails (hT.at0 80 7) (by decide) rfl rfl ⟨Nat.le_of_ble_eq_true rfl, Nat.le_of_ble_eq_true rfl⟩ ⟨Nat.le_of_ble_eq_true rfl, Nat.le_of_ble_eq_true rfl⟩ (Nat.le_of_ble_eq_true rfl) dX6_order_18 rfl (fun v18 u18 hp18 => ?_)
    obtain ⟨rfl, rfl⟩ := hp18
    refine KSt (st2 := [.int (iI 0)]) rfl ?_
    refine KRg (fun hR => ?_)
    refine KIret C rfl rfl (by
      first | exact hlift _ _ ⟨0, _, _, (by unfold oOrd; (repeat' split) <;> first | rfl | omega), rfl, (MP.refl0 hCn h00)⟩ | exact hlift _ _ ⟨1, _, _, (by unfold oOrd; (repeat' split) <;> first | rfl | omega), rfl, (MP.thr hT hCn 1)⟩ | exact hlift _ _ ⟨2, _, _, (by unfold oOrd; (repeat' split) <;> first | rfl | omega), rfl, (MP.thr hT hCn 2)⟩ | exact hlift _ _ ⟨3, _, _, (by unfold oOrd; (repeat' split) <;> first | rfl | omega), rfl, (MP.thr hT hCn 3)⟩) (by decide) (by decide) dX6_order_21
