def P_X4_drop (S : Sto) (q : Nat → Nat) (i : Nat) (w : Shp) (n : Nat) (tt : Nat) : Option Value → Sto → Prop := fun v u => v = none ∧ LRem S u tt (q 5) (w5 w) (k5 w) n i
set_option maxRecDepth 100000 in
set_option maxHeartbeats 4000000 in
theorem ct_X4_drop (l : Launch) (g : GG) (S : Sto) (q : Nat → Nat) (i : Nat) (w : Shp) (n : Nat) (hT : Top S q) (hBt : Bts S q (gT g) w n) (hi : i < n) (tt : Nat) (htt : tt = gT g) : MetS l g yX4_drop cX4_drop 2 (none) 4 0 0 [.ref (q 3), .int (iI (i : Int))] S (P_X4_drop S q i w n tt) := by
  refine MetS.of (own := RX4) (lv := [(0, .ref (q 3)), (1, .int (iI (i : Int)))]) (by decide) rfl (Nat.le_of_ble_eq_true rfl) rfl ?_
  intro pX eX sX mX argsX belowX methX cX C hin
  refine KRg (fun hR => ?_)
  have hn5 := hBt.1.2.2.2.1
  have hn60 := hBt.1.2.2.2.2.1
  refine KIload_n C dX4_drop_0 rfl 1 rfl ?_
  refine KIf_lt (tgt := 24) C dX4_drop_1 (by decide) ⟨by omega, by omega⟩ (fun c1 => absurd c1 (by omega)) (fun c1 => ?_)
  refine KIload_n C dX4_drop_4 rfl 1 rfl ?_
  refine KAload_n C dX4_drop_5 rfl 0 rfl ?_
  refine KGetR C ul_X4 rfl (by decide) 1 1 rfl (by decide) rfl u_fl_RX4_12 (hT.at0 3 5) (b := q 5) (hT.ptr 3 1 5) dX4_drop_6 (fun _ h => h) ?_
  refine KCallV (As := []) (b := q 5) (st := [.int (iI (i : Int))]) C (ct_Jx4a65c_size_8abf5 l g S (q 5) (w5 w) (k5 w) n hBt.1) u_ml_RX4_31 u_im_yJx4a65c_size_8abf5 u_se_yJx4a65c_size_8abf5 u_in_RJx4a65c u_co_yJx4a65c_size_8abf5 hd_yJx4a65c_size_8abf5 (hT.at0 5 0) (by decide) rfl rfl ⟨Nat.le_of_ble_eq_true rfl, Nat.le_of_ble_eq_true rfl⟩ ⟨Nat.le_of_ble_eq_true rfl, Nat.le_of_ble_eq_true rfl⟩ (Nat.le_of_ble_eq_true rfl) dX4_drop_9 rfl (fun v9 u9 hp9 => ?_)
  obtain ⟨rfl, rfl⟩ := hp9
  refine KSt (st2 := [.int (iI (n : Int)), .int (iI (i : Int))]) rfl ?_
  refine KIcmp_ge (tgt := 24) C dX4_drop_12 (by decide) ⟨by omega, by omega⟩ ⟨by omega, by omega⟩ (fun c12 => absurd c12 (by omega)) (fun c12 => ?_)
  refine KAload_n C dX4_drop_15 rfl 0 rfl ?_
  refine KGetR C ul_X4 rfl (by decide) 1 1 rfl (by decide) rfl u_fl_RX4_12 (hT.at0 3 5) (b := q 5) (hT.ptr 3 1 5) dX4_drop_16 (fun _ h => h) ?_
  refine KIload_n C dX4_drop_19 rfl 1 rfl ?_
  refine KCallV (As := [.int (iI (i : Int))]) (b := q 5) (st := []) C (ct_Jx4a65c_remove_915e3 l g S (q 5) i (w5 w) (k5 w) n (wb w i) hBt.1 1 _ (by decide) rfl n_ca_RX0_java_lang_Object (fun j hj y9 hy9 => by have h8 := hBt.2.1 j hj; have h7 := h8.1.symm.trans hy9; exact (Option.some.inj h7) ▸ h8.2) (by omega) ((hBt.2.1 i hi).1) (gT g) rfl) u_ml_RX4_93 u_im_yJx4a65c_remove_915e3 u_se_yJx4a65c_remove_915e3 u_in_RJx4a65c u_co_yJx4a65c_remove_915e3 hd_yJx4a65c_remove_915e3 (hT.at0 5 0) (by decide) rfl rfl ⟨Nat.le_of_ble_eq_true rfl, Nat.le_of_ble_eq_true rfl⟩ ⟨Nat.le_of_ble_eq_true rfl, Nat.le_of_ble_eq_true rfl⟩ (Nat.le_of_ble_eq_true rfl) dX4_drop_20 rfl (fun v20 u20 hp20 => ?_)
  obtain ⟨rfl, hrem20⟩ := hp20
  refine KSt (st2 := [.ref (wb w i)]) rfl ?_
  refine KRg (fun hR => ?_)
  refine KPop C dX4_drop_23 rfl ?_
  refine KVret C rfl (by
    exact ⟨rfl, by rw [htt]; exact hrem20⟩) (by decide) (by decide) dX4_drop_24
def P_X5_finish (S : Sto) (q : Nat → Nat) (o : Nat) (w : Shp) (z : Sig) (tt : Nat) : Option Value → Sto → Prop := fun v u => v = none ∧ CRw u q tt w (zfi z o) ∧ Gro S u ∧ OutM S q u ∧ Top u q
set_option maxRecDepth 100000 in
set_option maxHeartbeats 4000000 in
theorem ct_X5_finish (l : Launch) (g : GG) (S : Sto) (q : Nat → Nat) (o : Nat) (w : Shp) (z : Sig) (hT : Top S q) (hCw : CRw S q (gT g) w z) (ho : o < zo z) (hst : zst z (o : Int) ≠ 2) (hCz : 1 ≤ zA z ∧ zA z ≤ 6 ∧ 1 ≤ zN z ∧ zN z ≤ 20 ∧ 1 ≤ zG z ∧ zG z ≤ 9) (hok : okM (zN z) (zP z) (zW z o)) (hza : 0 ≤ za z ∧ za z ≤ 100000) (htv : ∀ p : Nat, p < 20 → (0 ≤ ztv z (p : Int) ∧ ztv z (p : Int) ≤ 20000) ∧ 0 ≤ qv z (p : Int) o ∧ qv z (p : Int) o ≤ 495) (tt : Nat) (htt : tt = gT g) : MetS l g yX5_finish cX5_finish 2 (none) 5 0 0 [.ref (q 0), .ref (wo w o)] S (P_X5_finish S q o w z tt) := by
  refine MetS.of (own := RX5) (lv := [(0, .ref (q 0)), (1, .ref (wo w o))]) (by decide) rfl (Nat.le_of_ble_eq_true rfl) rfl ?_
  intro pX eX sX mX argsX belowX methX cX C hin
  refine KRg (fun hR => ?_)
  obtain ⟨hWh, hBk, hOr, hBt, hBV, hRt, hz⟩ := id hCw
  obtain ⟨e10, e11, e12, e6, e7, e04, e05, e06⟩ := id hWh
  obtain ⟨hc1, hc2, hc3, hc4, hc5, hc6⟩ := hCz
  have hCf : Cf S q := ⟨by omega, by omega, by omega, by omega, by omega, by omega⟩
  have htb := tour_b (G := zG z) ⟨hc3, hc4⟩ ⟨hc5, hc6⟩ hok
  change 0 ≤ zto z (zW z o) ∧ zto z (zW z o) ≤ 660 at htb
  obtain ⟨b1, b2, b3, b4, b5⟩ := hBk.2.1 o ho
  obtain ⟨o1, o2, o3, o4⟩ := hOr o ho
  refine KAload_n C dX5_finish_0 rfl 0 rfl ?_
  refine KDup C dX5_finish_1 rfl ?_
  refine KGetI C ul_X5 rfl (by decide) 6 6 rfl (by decide) rfl u_fl_RX5_227 (hT.at0 0 6) (v := za z) e06 dX5_finish_2 (fun _ h => h) ?_
  refine KAload_n C dX5_finish_5 rfl 0 rfl ?_
  refine KGetR C ul_X5 rfl (by decide) 1 1 rfl (by decide) rfl u_fl_RX5_27 (hT.at0 0 6) (b := q 2) (hT.ptr 0 1 2) dX5_finish_6 (fun _ h => h) ?_
  refine KAload_n C dX5_finish_9 rfl 1 rfl ?_
  refine KGetIN C ul_X1 rfl (by decide) 2 2 rfl (by decide) rfl n_fn_RX5_147 b2 (v := ((zW z o : Nat) : Int)) o2 dX5_finish_10 (fun _ h => h) ?_
  refine KCallV (As := [.int (iI ((zW z o : Nat) : Int))]) (b := q 2) (st := [.int (iI (za z)), .ref (q 0)]) C (ct_X2_leastLength l g S q (zW z o) hT hCf (by rw [e11, e6]; exact hok) hz) u_ml_RX5_150 u_im_yX2_leastLength u_se_yX2_leastLength u_in_RX2 u_co_yX2_leastLength hd_yX2_leastLength (hT.at0 2 3) (by decide) rfl rfl ⟨Nat.le_of_ble_eq_true rfl, Nat.le_of_ble_eq_true rfl⟩ ⟨Nat.le_of_ble_eq_true rfl, Nat.le_of_ble_eq_true rfl⟩ (Nat.le_of_ble_eq_true rfl) dX5_finish_13 rfl (fun v13 u13 hp13 => ?_)
  obtain ⟨rfl, f13, rfl, hK13⟩ := hp13
  refine KSt (st2 := [.int (iI (tour (sI S (q 1) 1) (sI S (q 1) 2) (sI S (q 6)) (zW z o))), .int (iI (za z)), .ref (q 0)]) rfl ?_
  refine KRg (fun hR => ?_)
  refine KTop (congrArg iI (show tour (sI S (q 1) 1) (sI S (q 1) 2) (sI S (q 6)) (zW z o) = zto z (zW z o) from (by rw [e11, e12, e6]; rfl))) ?_
  have hF := hK13.fra hT
  have hCk := hCw.fra hT hF
  have hfi := fi_fin (S := wI S f13) (X := za z + zto z (zW z o)) hT hCk ho hst rfl
  refine KIadd C dX5_finish_16 ?_
  refine KPutI (S := wI S f13) (ty := .int) (v := (za z) + (zto z (zW z o))) C ul_X5 rfl (by decide) 6 6 rfl (by decide) rfl u_fl_RX5_227 tyX5 tyX5_ok nmX5 (hT.at0 0 6) ⟨by omega, by omega⟩ (by decide +kernel) rfl rfl rfl dX5_finish_17 (fun _ h => h) ?_
  refine KAload_n C dX5_finish_20 rfl 0 rfl ?_
  refine KGetR (S := uI (wI S f13) (q 0) 6 ((za z) + (zto z (zW z o)))) C ul_X5 rfl (by decide) 0 0 rfl (by decide) rfl u_fl_RX5_18 (hT.at0 0 6) (b := q 1) (hT.ptr 0 0 1) dX5_finish_21 (fun _ h => h) ?_
  refine KAload_n C dX5_finish_24 rfl 1 rfl ?_
  refine KCallV (As := [.ref (wo w o)]) (b := q 1) (st := []) C (ct_X3_addTurnover l g (uI (wI S f13) (q 0) 6 ((za z) + (zto z (zW z o)))) q (wo w o) (wq w o) hT b2 b3 (⟨b4, b5⟩) (hBk.2.2.2.2 o ho 7 (by decide)) (fun p9 hp9 => by rw [show sI (uI (wI S f13) (q 0) 6 (za z + zto z (zW z o))) (q 7) (p9 : Int) = ztv z (p9 : Int) from (up2_ne _ _ _ _ (hT.ne 7 0)).trans (hCk.1.2.2.2.2.1 p9 hp9), show sI (uI (wI S f13) (q 0) 6 (za z + zto z (zW z o))) (wq w o) (p9 : Int) = qv z (p9 : Int) o from (up2_ne _ _ _ _ (hBk.2.2.2.2 o ho 0 (by decide))).trans ((hCk.2.2.1 o ho).2.2.2 p9 hp9)]; exact htv p9 hp9)) u_ml_RX5_249 u_im_yX3_addTurnover u_se_yX3_addTurnover u_in_RX3 u_co_yX3_addTurnover hd_yX3_addTurnover (hT.at0 1 4) (by decide) rfl rfl ⟨Nat.le_of_ble_eq_true rfl, Nat.le_of_ble_eq_true rfl⟩ ⟨Nat.le_of_ble_eq_true rfl, Nat.le_of_ble_eq_true rfl⟩ (Nat.le_of_ble_eq_true rfl) dX5_finish_25 rfl (fun v25 u25 hp25 => ?_)
  obtain ⟨rfl, rfl⟩ := hp25
  refine KSt (st2 := []) rfl ?_
  refine KRg (fun hR => ?_)
  refine KAload_n C dX5_finish_28 rfl 1 rfl ?_
  refine KIconst C dX5_finish_29 ?_
  refine KPutIN (S := wI (uI (wI S f13) (q 0) 6 ((za z) + (zto z (zW z o)))) (row1 (sI (uI (wI S f13) (q 0) 6 ((za z) + (zto z (zW z o))))) (q 7) (adR (sI (uI (wI S f13) (q 0) 6 ((za z) + (zto z (zW z o)))) (q 7)) (sI (uI (wI S f13) (q 0) 6 ((za z) + (zto z (zW z o)))) (wq w o)) 20))) (ty := .int) (v := 2) C ul_X1 rfl (by decide) 3 3 rfl (by decide) rfl n_fn_RX5_144 tyX1 tyX1_ok nmX1 b2 ⟨by omega, by omega⟩ (by decide +kernel) rfl rfl rfl dX5_finish_30 (fun _ h => h) ?_
  refine KVret C rfl (by
    exact ⟨rfl, by rw [htt]; exact hfi.1, hF.1.trans hfi.2.1, (hK13.out hT).trans hfi.2.2, hT⟩) (by decide) (by decide) dX5_finish_33
def P_X5_pick (S : Sto) (q : Nat → Nat) (x : Int) (z : Sig) (tt : Nat) : Option Value → Sto → Prop := fun v u => ∃ r z', oPk z x = (0, r, z') ∧ v = some (.int (iI r)) ∧ CP S q tt u z'
def T_X5_pick (S : Sto) (q : Nat → Nat) (x : Int) (z : Sig) (tt : Nat) : String → Sto → Prop := fun E u => ((oPk z x = (1, 0, z) ∧ E = "java/lang/IndexOutOfBoundsException")) ∧ CP S q tt u z
set_option maxRecDepth 100000 in
set_option maxHeartbeats 4000000 in
theorem ct_X5_pick (l : Launch) (g : GG) (hnt : l.stackTraces = false) (S : Sto) (q : Nat → Nat) (x : Int) (z : Sig) (hT : Top S q) (hW : Wf z) (hCR : CR S q (gT g) z) (hix : inR x) (tt : Nat) (htt : tt = gT g) : MetX l g yX5_pick cX5_pick 4 (some FieldType.int) 7 1 6 [.ref (q 0), .int (iI x)] S (P_X5_pick S q x z tt) (T_X5_pick S q x z tt) := by
  refine MetX.of (own := RX5) (lv := [(0, .ref (q 0)), (1, .int (iI x))]) (by decide) rfl (Nat.le_of_ble_eq_true rfl) rfl ?_
  intro pX eX sX mX argsX belowX methX cX C hne
  refine KRg (fun hR => ?_)
  obtain ⟨x1, x2⟩ := id hix
  obtain ⟨w, hCw⟩ := hCR
  obtain ⟨hWh, hBk, hOr, hBt, hBV, hRt, hz⟩ := id hCw
  obtain ⟨e10, e11, e12, e6, e7, e04, e05, e06⟩ := id hWh
  have hC := hW.1
  have hCf : Cf S q := ⟨by omega, by omega, by omega, by omega, by omega, by omega⟩
  have hn4 := hBk.1.2.2.2.1
  have hn40 := hBk.1.2.2.2.2.1
  have hn5 := hBt.1.2.2.2.1
  have hn60 := hBt.1.2.2.2.2.1
  have ho40 := hW.2.1
  have hCP : CP S q tt S z := by rw [htt]; exact CP.refl hT ⟨w, hCw⟩
  refine KAload_n C dX5_pick_0 rfl 0 rfl ?_
  refine KIload_n C dX5_pick_1 rfl 1 rfl ?_
  refine KCallVX (As := [.int (iI x)]) (b := q 0) (st := []) C (ct_X5_batchNumbered l g hnt S q x w (zb z) hT hBt (⟨by omega, by omega⟩)) hne (fun E u ⟨h1, h2, h3⟩ => by subst h3; exact ⟨⟨(by unfold oPk; (repeat' split) <;> first | rfl | omega), h1⟩, hCP⟩) ⟨Nat.le_of_ble_eq_true rfl, Nat.le_of_ble_eq_true rfl⟩ u_ml_RX5_180 u_im_yX5_batchNumbered u_se_yX5_batchNumbered u_in_RX5 u_co_yX5_batchNumbered hd_yX5_batchNumbered (hT.at0 0 6) (by decide) rfl rfl ⟨Nat.le_of_ble_eq_true rfl, Nat.le_of_ble_eq_true rfl⟩ ⟨Nat.le_of_ble_eq_true rfl, Nat.le_of_ble_eq_true rfl⟩ (Nat.le_of_ble_eq_true rfl) dX5_pick_2 rfl (fun v2 u2 hp2 => ?_)
  obtain ⟨o2, ho2, hon2, rfl, rfl⟩ := hp2
  refine KSt (st2 := [.ref (wb w o2)]) rfl ?_
  have hal := alI_b hW (o2 : Int)
  have hzw := hW.2.2.2.2.2.2.2
  have hdn := dn_le (zst z) (zo z)
  have hokb := hW.okB (hW.lnB hon2)
  have htb := zto_b hW hokb
  have hPz := hCP
  refine KAstore_n (lv' := [(2, .ref (wb w o2)), (0, .ref (q 0)), (1, .int (iI x))]) C dX5_pick_5 rfl (by decide) rfl ?_
  refine KIconst C dX5_pick_6 ?_
  refine KIstore_n (lv' := [(3, .int (iI 0)), (2, .ref (wb w o2)), (0, .ref (q 0)), (1, .int (iI x))]) C dX5_pick_7 rfl (by decide) rfl ?_
  refine KLv (lv' := [(0, .ref (q 0)), (1, .int (iI x)), (2, .ref (wb w o2)), (3, .int (iI 0))]) [2, 3, 1, 0] rfl ?_
  have loop8 : ∀ (nX : Nat) (k : Nat) (S1 : Sto), zo z - k < nX → (k ≤ zo z) → (Gro S S1 ∧ OutM S q S1 ∧ Top S1 q) → (CRw S1 q (gT g) w (zkk z (o2 : Int) k)) → Wk pX l eX (rmK 7 1 6) sX mX argsX belowX methX cX (vx_MQ belowX (QcG g (P_X5_pick S q x z tt)) (XcG g (T_X5_pick S q x z tt)) argsX sX 1 6 (ge (gB g))) g 4 1 6 8 [(0, .ref (q 0)), (1, .int (iI x)), (2, .ref (wb w o2)), (3, .int (iI (k : Int)))] [] S1 := by
    intro nX
    induction nX with
    | zero => intro k S1 hm; exact absurd hm (Nat.not_lt_zero _)
    | succ nX ih8 =>
      intro k S1 hm8 hk hI1 hC1
      refine KRg (fun hR => ?_)
      have hT := hI1.2.2
      obtain ⟨-, hBk1, hOr1, hBt1, hBV1, -, -⟩ := id hC1
      have hBt : Bts S1 q (gT g) w (zb z) := hBt1
      refine KIload_n C dX5_pick_8 rfl 3 rfl ?_
      refine KAload_n C dX5_pick_9 rfl 0 rfl ?_
      refine KGetR (S := S1) C ul_X5 rfl (by decide) 3 3 rfl (by decide) rfl u_fl_RX5_43 (hT.at0 0 6) (b := q 4) (hT.ptr 0 3 4) dX5_pick_10 (fun _ h => h) ?_
      refine KCallV (As := []) (b := q 4) (st := [.int (iI (k : Int))]) C (ct_Jx4a65c_size_8abf5 l g S1 (q 4) (w4 w) (k4 w) (zo z) hBk1.1) u_ml_RX5_106 u_im_yJx4a65c_size_8abf5 u_se_yJx4a65c_size_8abf5 u_in_RJx4a65c u_co_yJx4a65c_size_8abf5 hd_yJx4a65c_size_8abf5 (hT.at0 4 0) (by decide) rfl rfl ⟨Nat.le_of_ble_eq_true rfl, Nat.le_of_ble_eq_true rfl⟩ ⟨Nat.le_of_ble_eq_true rfl, Nat.le_of_ble_eq_true rfl⟩ (Nat.le_of_ble_eq_true rfl) dX5_pick_13 rfl (fun v13 u13 hp13 => ?_)
      obtain ⟨rfl, rfl⟩ := hp13
      refine KSt (st2 := [.int (iI ((zo z) : Int)), .int (iI (k : Int))]) rfl ?_
      refine KRg (fun hR => ?_)
      refine KIcmp_ge (tgt := 48) C dX5_pick_16 (by decide) ⟨by omega, by omega⟩ ⟨by omega, by omega⟩ (fun c16 => ?_) (fun c16 => ?_)
      · have hkz : k = zo z := by omega
        subst hkz
        refine KAload_n C dX5_pick_48 rfl 0 rfl ?_
        refine KDup C dX5_pick_49 rfl ?_
        refine KGetI (S := S1) C ul_X5 rfl (by decide) 5 5 rfl (by decide) rfl u_fl_RX5_193 (hT.at0 0 6) (v := zw z) hC1.1.2.2.2.2.2.2.1 dX5_pick_50 (fun _ h => h) ?_
        refine KAload_n C dX5_pick_53 rfl 2 rfl ?_
        refine KGetIN (S := S1) C ul_X0 rfl (by decide) 4 4 rfl (by decide) rfl n_fn_RX5_196 (hBt.2.1 o2 (by omega)).2 (v := zto z (zpd z (o2 : Int))) (hBV1.1 o2 hon2).2.2.2.1 dX5_pick_54 (fun _ h => h) ?_
        refine KIadd C dX5_pick_57 ?_
        refine KPutI (S := S1) (ty := .int) (v := (zw z) + (zto z (zpd z (o2 : Int)))) C ul_X5 rfl (by decide) 5 5 rfl (by decide) rfl u_fl_RX5_193 tyX5 tyX5_ok nmX5 (hT.at0 0 6) ⟨by omega, by omega⟩ (by decide +kernel) rfl rfl rfl dX5_pick_58 (fun _ h => h) ?_
        have hT5 := hT
        have hBt5 : Bts (uI S1 (q 0) 5 (zw z + zto z (zpd z (o2 : Int)))) q (gT g) w (zb z) := hBt1.fr (Gro.same rfl rfl rfl) rfl (up2_ne _ _ _ _ (hT.ne 5 0)) (fun _ _ => rfl)
        refine KAload_n C dX5_pick_61 rfl 0 rfl ?_
        refine KGetR (S := uI S1 (q 0) 5 ((zw z) + (zto z (zpd z (o2 : Int))))) C ul_X5 rfl (by decide) 2 2 rfl (by decide) rfl u_fl_RX5_36 (hT.at0 0 6) (b := q 3) (hT.ptr 0 2 3) dX5_pick_62 (fun _ h => h) ?_
        refine KIload_n C dX5_pick_65 rfl 1 rfl ?_
        refine KLvE (lv2 := [(0, .ref (q 0)), (1, .int (iI (o2 : Int))), (2, .ref (wb w o2)), (3, .int (iI ((zo z : Nat) : Int)))]) (by rw [ho2]) ?_
        refine KTop (show iI x = iI (o2 : Int) by rw [ho2]) ?_
        refine KCallV (As := [.int (iI (o2 : Int))]) (b := q 3) (st := []) C (ct_X4_drop l g (uI S1 (q 0) 5 ((zw z) + (zto z (zpd z (o2 : Int))))) q o2 w (zb z) hT hBt5 (by omega) (gT g) rfl) u_ml_RX5_199 u_im_yX4_drop u_se_yX4_drop u_in_RX4 u_co_yX4_drop hd_yX4_drop (hT.at0 3 5) (by decide) rfl rfl ⟨Nat.le_of_ble_eq_true rfl, Nat.le_of_ble_eq_true rfl⟩ ⟨Nat.le_of_ble_eq_true rfl, Nat.le_of_ble_eq_true rfl⟩ (Nat.le_of_ble_eq_true rfl) dX5_pick_66 rfl (fun v66 u66 hp66 => ?_)
        obtain ⟨rfl, hdrop66⟩ := hp66
        refine KSt (st2 := []) rfl ?_
        refine KRg (fun hR => ?_)
        have hpk := pk_fin hT hC1 hon2 hdrop66
        have hb66 : At0 u66 (wb w o2) 1 := hpk.2.1.at (hBt.2.1 o2 hon2).2
        refine KAload_n C dX5_pick_69 rfl 2 rfl ?_
        refine KGetIN (S := u66) C ul_X0 rfl (by decide) 4 4 rfl (by decide) rfl n_fn_RX5_196 hb66 (v := zto z (zpd z (o2 : Int))) ((congrFun (hdrop66.2.2.2.2.2.2.2.1 _ (hT.nq (hBt1.2.1 o2 hon2).2 rfl (by decide))) 4).trans ((up2_ne _ _ _ _ (hT.nq (hBt1.2.1 o2 hon2).2 rfl (by decide))).trans (hBV1.1 o2 hon2).2.2.2.1)) dX5_pick_70 (fun _ h => h) ?_
        refine KX ?_
        refine KIret C rfl rfl (by
          refine ⟨_, _, ?_, rfl, ⟨hI1.1.trans hpk.2.1, hpk.2.2.2, hI1.2.1.trans hpk.2.2.1, _, (by rw [htt]; exact hpk.1)⟩⟩
          unfold oPk
          rw [if_pos (by omega), ho2]) (by decide) (by decide) dX5_pick_73
      · refine KAload_n C dX5_pick_19 rfl 2 rfl ?_
        refine KIload_n C dX5_pick_20 rfl 3 rfl ?_
        obtain ⟨M, hM1, hM2, hM3⟩ := (hBV1.1 o2 hon2).2.2.2.2
        refine KCallV (As := [.int (iI (k : Int))]) (b := (wb w o2)) (st := []) C (ct_X0_holds l g S1 (wb w o2) ((hBt1.2.1 o2 hon2).2) k M hM1 hM2 (by omega)) u_ml_RX5_184 u_im_yX0_holds u_se_yX0_holds u_in_RX0 u_co_yX0_holds hd_yX0_holds (hBt.2.1 o2 (by omega)).2 (by decide) rfl rfl ⟨Nat.le_of_ble_eq_true rfl, Nat.le_of_ble_eq_true rfl⟩ ⟨Nat.le_of_ble_eq_true rfl, Nat.le_of_ble_eq_true rfl⟩ (Nat.le_of_ble_eq_true rfl) dX5_pick_21 rfl (fun v21 u21 hp21 => ?_)
        obtain ⟨⟨b21, rfl⟩ | ⟨b21, rfl⟩, rfl⟩ := hp21
        · refine KSt (st2 := [.int (iI 1)]) rfl ?_
          have hbk : zbt z (k : Int) = (o2 : Int) := ((hM3 k (by omega)).mp b21).2
          refine KIf_eq (tgt := 42) C dX5_pick_24 (by decide) ⟨by omega, by omega⟩ (fun h => absurd h (by decide)) (fun _ => ?_)
          refine KAload_n C dX5_pick_27 rfl 0 rfl ?_
          refine KAload_n C dX5_pick_28 rfl 0 rfl ?_
          refine KGetR (S := S1) C ul_X5 rfl (by decide) 3 3 rfl (by decide) rfl u_fl_RX5_43 (hT.at0 0 6) (b := q 4) (hT.ptr 0 3 4) dX5_pick_29 (fun _ h => h) ?_
          refine KIload_n C dX5_pick_32 rfl 3 rfl ?_
          refine KCallV (As := [.int (iI (k : Int))]) (b := q 4) (st := [.ref (q 0)]) C (ct_Jx4a65c_get_915e3 l g S1 (q 4) (w4 w) (k4 w) (zo z) hBk1.1 k (wo w k) (by omega) ((hBk1.2.1 k (show k < zo z by omega)).1)) u_ml_RX5_165 u_im_yJx4a65c_get_915e3 u_se_yJx4a65c_get_915e3 u_in_RJx4a65c u_co_yJx4a65c_get_915e3 hd_yJx4a65c_get_915e3 (hT.at0 4 0) (by decide) rfl rfl ⟨Nat.le_of_ble_eq_true rfl, Nat.le_of_ble_eq_true rfl⟩ ⟨Nat.le_of_ble_eq_true rfl, Nat.le_of_ble_eq_true rfl⟩ (Nat.le_of_ble_eq_true rfl) dX5_pick_33 rfl (fun v33 u33 hp33 => ?_)
          obtain ⟨rfl, rfl⟩ := hp33
          refine KSt (st2 := [.ref (wo w k), .ref (q 0)]) rfl ?_
          refine KRg (fun hR => ?_)
          refine KCast C u_cl_RX5_111 (hBk1.2.1 k (show k < zo z by omega)).2.1 (by decide) rfl rfl dX5_pick_36 ?_
          have hk2 : k < zo z := by omega
          have hin := nIn_le (zbt z) (o2 : Int) k
          have hak := hal k (by omega)
          have hs1 : zst z (k : Int) = 1 := (hW.2.2.2.2.1 k hk2).2.2.2.1.mp (by omega)
          refine KCallV (As := [.ref (wo w k)]) (b := q 0) (st := []) C (ct_X5_finish l g S1 q k w (zkk z (o2 : Int) k) hT hC1 hk2 (by rw [show zst (zkk z (o2 : Int) k) (k : Int) = zst z (k : Int) from pkS_at _ _ _ _]; omega) (⟨hC.1, hC.2.1, hC.2.2.1, hC.2.2.2.1, hC.2.2.2.2.1, hC.2.2.2.2.2.1⟩) (hW.okW hk2) (by show 0 ≤ za z + alI z (o2 : Int) k ∧ za z + alI z (o2 : Int) k ≤ 100000; omega) (fun p9 hp9 => ⟨(by have h8 := tv_b (z := (zkk z (o2 : Int) k)) hW.wq (p9 : Int) (zo z) (Nat.le_refl _); show 0 ≤ tv _ _ _ _ (p9 : Int) (zo z) ∧ tv _ _ _ _ (p9 : Int) (zo z) ≤ 20000; omega), qv_b hW hk2 (p9 : Int)⟩) (gT g) rfl) u_ml_RX5_189 u_im_yX5_finish u_se_yX5_finish u_in_RX5 u_co_yX5_finish hd_yX5_finish (hT.at0 0 6) (by decide) rfl rfl ⟨Nat.le_of_ble_eq_true rfl, Nat.le_of_ble_eq_true rfl⟩ ⟨Nat.le_of_ble_eq_true rfl, Nat.le_of_ble_eq_true rfl⟩ (Nat.le_of_ble_eq_true rfl) dX5_pick_39 rfl (fun v39 u39 hp39 => ?_)
          obtain ⟨rfl, hCf39, hGf39, hOf39, hTf39⟩ := hp39
          refine KSt (st2 := []) rfl ?_
          refine KRg (fun hR => ?_)
          rw [zkk_t hbk] at hCf39
          refine KIinc (v := ((k + 1 : Nat) : Int)) (lv' := [(3, .int (iI ((k + 1 : Nat) : Int))), (0, .ref (q 0)), (1, .int (iI x)), (2, .ref (wb w o2))]) C dX5_pick_42 3 rfl (by omega) (by decide) rfl ?_
          refine KGoto (tgt := 8) C dX5_pick_45 (by decide) ?_
          refine KLv (lv' := [(0, .ref (q 0)), (1, .int (iI x)), (2, .ref (wb w o2)), (3, .int (iI ((k + 1 : Nat) : Int)))]) [1, 2, 3, 0] rfl ?_
          exact ih8 (k + 1) u39 (by omega) (by omega) (by first | exact ⟨hI1.1.trans hGf39, hI1.2.1.trans hOf39, hTf39⟩ | exact hI1) (by first | exact hCf39 | (rw [← zkk_f hbk]; exact hC1))
        · refine KSt (st2 := [.int (iI 0)]) rfl ?_
          have hbk : ¬ zbt z (k : Int) = (o2 : Int) := fun h9 => b21 ((hM3 k (by omega)).mpr ⟨(by show k < zo z; omega), h9⟩)
          refine KIf_eq (tgt := 42) C dX5_pick_24 (by decide) ⟨by omega, by omega⟩ (fun _ => ?_) (fun h => absurd h (by decide))
          refine KIinc (v := ((k + 1 : Nat) : Int)) (lv' := [(3, .int (iI ((k + 1 : Nat) : Int))), (0, .ref (q 0)), (1, .int (iI x)), (2, .ref (wb w o2))]) C dX5_pick_42 3 rfl (by omega) (by decide) rfl ?_
          refine KGoto (tgt := 8) C dX5_pick_45 (by decide) ?_
          refine KLv (lv' := [(0, .ref (q 0)), (1, .int (iI x)), (2, .ref (wb w o2)), (3, .int (iI ((k + 1 : Nat) : Int)))]) [1, 2, 3, 0] rfl ?_
          exact ih8 (k + 1) S1 (by omega) (by omega) (by first | exact ⟨hI1.1.trans hGf39, hI1.2.1.trans hOf39, hTf39⟩ | exact hI1) (by first | exact hCf39 | (rw [← zkk_f hbk]; exact hC1))
  exact loop8 _ 0 S (Nat.lt_succ_self _) (by omega) ⟨Gro.refl, OutM.refl, hT⟩ (by rw [zkk_0]; exact hCw)
