def P_X4_noteSaving (S : Sto) (q : Nat → Nat) (x : Nat) (y : Nat) (w : Shp) (z : Sig) (cp : Int) : Option Value → Sto → Prop := fun v u => v = none ∧ Ntd S q w z (zb z) x y u
set_option maxRecDepth 100000 in
set_option maxHeartbeats 4000000 in
theorem ct_X4_noteSaving (l : Launch) (g : GG) (S : Sto) (q : Nat → Nat) (x : Nat) (y : Nat) (w : Shp) (z : Sig) (hT : Top S q) (hW : Wf z) (hCj : CRj S q (gT g) w z) (hx : x < zb z) (hy : y < zb z) (cp : Int) (hcp : cp = zC z) : MetS l g yX4_noteSaving cX4_noteSaving 7 (none) 5 0 0 [.ref (q 3), .int (iI (x : Int)), .int (iI (y : Int)), .int (iI cp)] S (P_X4_noteSaving S q x y w z cp) := by
  refine MetS.of (own := RX4) (lv := [(0, .ref (q 3)), (1, .int (iI (x : Int))), (2, .int (iI (y : Int))), (3, .int (iI cp))]) (by decide) rfl (Nat.le_of_ble_eq_true rfl) rfl ?_
  intro pX eX sX mX argsX belowX methX cX C hin
  refine KRg (fun hR => ?_)
  obtain ⟨hWh, hBk, hOr, hBt, hBV, hz⟩ := id hCj
  have hn5 := hBt.1.2.2.2.1
  have hn60 := hBt.1.2.2.2.2.1
  obtain ⟨e10, e11, e12, e6, -, e04, -⟩ := id hWh
  have hC := hW.1
  have hCf : Cf S q := ⟨by omega, by omega, by omega, by omega, by omega, by omega⟩
  have hrx := hBV.rw hx
  have hry := hBV.rw hy
  obtain ⟨-, vx2, vx3, vx4, -⟩ := hBV.1 x hx
  obtain ⟨-, vy2, vy3, vy4, -⟩ := hBV.1 y hy
  have hlx := hW.ln0 (x : Int)
  have hly := hW.ln0 (y : Int)
  have htx := zto_b hW (hW.okB (hW.lnB hx))
  have hty := zto_b hW (hW.okB (hW.lnB hy))
  refine KAload_n C dX4_noteSaving_0 rfl 0 rfl ?_
  refine KGetR C ul_X4 rfl (by decide) 1 1 rfl (by decide) rfl u_fl_RX4_12 (hT.at0 3 5) (b := q 5) (hT.ptr 3 1 5) dX4_noteSaving_1 (fun _ h => h) ?_
  refine KIload_n C dX4_noteSaving_4 rfl 1 rfl ?_
  refine KCallV (As := [.int (iI (x : Int))]) (b := q 5) (st := []) C (ct_Jx4a65c_get_915e3 l g S (q 5) (w5 w) (k5 w) (zb z) hBt.1 x (wb w x) (by omega) ((hBt.2.1 x (by omega)).1)) u_ml_RX4_63 u_im_yJx4a65c_get_915e3 u_se_yJx4a65c_get_915e3 u_in_RJx4a65c u_co_yJx4a65c_get_915e3 hd_yJx4a65c_get_915e3 (hT.at0 5 0) (by decide) rfl rfl ⟨Nat.le_of_ble_eq_true rfl, Nat.le_of_ble_eq_true rfl⟩ ⟨Nat.le_of_ble_eq_true rfl, Nat.le_of_ble_eq_true rfl⟩ (Nat.le_of_ble_eq_true rfl) dX4_noteSaving_5 rfl (fun v5 u5 hp5 => ?_)
  obtain ⟨rfl, rfl⟩ := hp5
  refine KSt (st2 := [.ref (wb w x)]) rfl ?_
  refine KCast C u_cl_RX4_35 (hBt.2.1 x (by omega)).2 (by decide) rfl rfl dX4_noteSaving_8 ?_
  refine KAstore (lv' := [(4, .ref (wb w x)), (0, .ref (q 3)), (1, .int (iI (x : Int))), (2, .int (iI (y : Int))), (3, .int (iI cp))]) C dX4_noteSaving_11 (by decide) rfl ?_
  refine KAload_n C dX4_noteSaving_13 rfl 1 rfl ?_
  refine KGetR C ul_X4 rfl (by decide) 1 1 rfl (by decide) rfl u_fl_RX4_12 (hT.at0 3 5) (b := q 5) (hT.ptr 3 1 5) dX4_noteSaving_14 (fun _ h => h) ?_
  refine KIload_n C dX4_noteSaving_17 rfl 3 rfl ?_
  refine KCallV (As := [.int (iI (y : Int))]) (b := q 5) (st := []) C (ct_Jx4a65c_get_915e3 l g S (q 5) (w5 w) (k5 w) (zb z) hBt.1 y (wb w y) (by omega) ((hBt.2.1 y (by omega)).1)) u_ml_RX4_63 u_im_yJx4a65c_get_915e3 u_se_yJx4a65c_get_915e3 u_in_RJx4a65c u_co_yJx4a65c_get_915e3 hd_yJx4a65c_get_915e3 (hT.at0 5 0) (by decide) rfl rfl ⟨Nat.le_of_ble_eq_true rfl, Nat.le_of_ble_eq_true rfl⟩ ⟨Nat.le_of_ble_eq_true rfl, Nat.le_of_ble_eq_true rfl⟩ (Nat.le_of_ble_eq_true rfl) dX4_noteSaving_18 rfl (fun v18 u18 hp18 => ?_)
  obtain ⟨rfl, rfl⟩ := hp18
  refine KSt (st2 := [.ref (wb w y)]) rfl ?_
  refine KCast C u_cl_RX4_35 (hBt.2.1 y (by omega)).2 (by decide) rfl rfl dX4_noteSaving_21 ?_
  refine KAstore (lv' := [(5, .ref (wb w y)), (4, .ref (wb w x)), (0, .ref (q 3)), (1, .int (iI (x : Int))), (2, .int (iI (y : Int))), (3, .int (iI cp))]) C dX4_noteSaving_24 (by decide) rfl ?_
  refine KIconst C dX4_noteSaving_26 ?_
  refine KIstore (lv' := [(6, .int (iI 0)), (5, .ref (wb w y)), (4, .ref (wb w x)), (0, .ref (q 3)), (1, .int (iI (x : Int))), (2, .int (iI (y : Int))), (3, .int (iI cp))]) C dX4_noteSaving_27 (by decide) rfl ?_
  refine KIload_n C dX4_noteSaving_29 rfl 4 rfl ?_
  refine KIload_n C dX4_noteSaving_30 rfl 5 rfl ?_
  refine KIcmp_eq (tgt := 81) C dX4_noteSaving_31 (by decide) ⟨by omega, by omega⟩ ⟨by omega, by omega⟩ (fun c31 => ?_) (fun c31 => ?_)
  · have hxy : x = y := by omega
    refine KLvE (lv2 := [(6, .int (iI (svx z x y))), (5, .ref (wb w y)), (4, .ref (wb w x)), (0, .ref (q 3)), (1, .int (iI (x : Int))), (2, .int (iI (y : Int))), (3, .int (iI cp))]) (congrArg (fun zz : Int => ([(6, .int (iI zz)), (5, .ref (wb w y)), (4, .ref (wb w x)), (0, .ref (q 3)), (1, .int (iI (x : Int))), (2, .int (iI (y : Int))), (3, .int (iI cp))] : List (Nat × Value))) (show (0 : Int) = svx z x y from (by unfold svx; rw [if_pos hxy]))) ?_
    refine KAload_n C dX4_noteSaving_81 rfl 3 rfl ?_
    refine KGetR C ul_X4 rfl (by decide) 2 2 rfl (by decide) rfl u_fl_RX4_20 (hT.at0 3 5) (b := q 13) (hT.ptr 3 2 13) dX4_noteSaving_82 (fun _ h => h) ?_
    refine KAload C dX4_noteSaving_85 2 rfl ?_
    refine KGetIN C ul_X0 rfl (by decide) 0 0 rfl (by decide) rfl n_fn_RX4_82 (hBt.2.1 x (by omega)).2 (v := ((rwn S w x : Nat) : Int)) (hBV.rw hx).1 dX4_noteSaving_87 (fun _ h => h) ?_
    refine KGaldR (b := q (30 + rwn S w x)) C 40 (hT.at0 13 22) (hT.ln0 13 40) ⟨by omega, by omega⟩ (by omega) (hT.sav hrx.2) dX4_noteSaving_90 ?_
    refine KAload C dX4_noteSaving_91 1 rfl ?_
    refine KGetIN C ul_X0 rfl (by decide) 0 0 rfl (by decide) rfl n_fn_RX4_82 (hBt.2.1 y (by omega)).2 (v := ((rwn S w y : Nat) : Int)) (hBV.rw hy).1 dX4_noteSaving_93 (fun _ h => h) ?_
    refine KIload C dX4_noteSaving_96 0 rfl ?_
    have hsx : -660 ≤ svx z x y ∧ svx z x y ≤ 1320 := by have h9 := zsv_b hW x y; unfold svx; split <;> omega
    refine KIast C 40 (hT.sat hrx.2) (hT.sln hrx.2) ⟨by omega, by omega⟩ (by omega) ⟨by omega, by omega⟩ dX4_noteSaving_98 ?_
    refine KAload_n C dX4_noteSaving_99 rfl 3 rfl ?_
    refine KGetR (S := uI S (q (30 + rwn S w x)) ((rwn S w y : Nat) : Int) (svx z x y)) C ul_X4 rfl (by decide) 2 2 rfl (by decide) rfl u_fl_RX4_20 (hT.at0 3 5) (b := q 13) (hT.ptr 3 2 13) dX4_noteSaving_100 (fun _ h => h) ?_
    refine KAload C dX4_noteSaving_103 1 rfl ?_
    refine KGetIN (S := uI S (q (30 + rwn S w x)) ((rwn S w y : Nat) : Int) (svx z x y)) C ul_X0 rfl (by decide) 0 0 rfl (by decide) rfl n_fn_RX4_82 (hBt.2.1 y (by omega)).2 (v := ((rwn S w y : Nat) : Int)) ((up2_ne _ _ _ _ (hT.nq (hBt.2.1 y hy).2 rfl (tix_sav _ hrx.2))).trans (hBV.rw hy).1) dX4_noteSaving_105 (fun _ h => h) ?_
    refine KGaldR (S := uI S (q (30 + rwn S w x)) ((rwn S w y : Nat) : Int) (svx z x y)) (b := q (30 + rwn S w y)) C 40 (hT.at0 13 22) (hT.ln0 13 40) ⟨by omega, by omega⟩ (by omega) (hT.sav hry.2) dX4_noteSaving_108 ?_
    refine KAload C dX4_noteSaving_109 2 rfl ?_
    refine KGetIN (S := uI S (q (30 + rwn S w x)) ((rwn S w y : Nat) : Int) (svx z x y)) C ul_X0 rfl (by decide) 0 0 rfl (by decide) rfl n_fn_RX4_82 (hBt.2.1 x (by omega)).2 (v := ((rwn S w x : Nat) : Int)) ((up2_ne _ _ _ _ (hT.nq (hBt.2.1 x hx).2 rfl (tix_sav _ hrx.2))).trans (hBV.rw hx).1) dX4_noteSaving_111 (fun _ h => h) ?_
    refine KIload C dX4_noteSaving_114 0 rfl ?_
    refine KIast (S := uI S (q (30 + rwn S w x)) ((rwn S w y : Nat) : Int) (svx z x y)) C 40 (hT.sat hry.2) (hT.sln hry.2) ⟨by omega, by omega⟩ (by omega) ⟨by omega, by omega⟩ dX4_noteSaving_116 ?_
    refine KVret C rfl (by
      first | exact ⟨rfl, note_fin (f := sI S) hT hBt hBV hx hy (Kept.refl hz)⟩ | exact ⟨rfl, note_fin hT hBt hBV hx hy hK75⟩) (by decide) (by decide) dX4_noteSaving_117
  · have hxy : ¬ x = y := by omega
    refine KAload C dX4_noteSaving_34 2 rfl ?_
    refine KGetIN C ul_X0 rfl (by decide) 3 3 rfl (by decide) rfl n_fn_RX4_76 (hBt.2.1 x (by omega)).2 (v := zln z (x : Int)) vx3 dX4_noteSaving_36 (fun _ h => h) ?_
    refine KAload C dX4_noteSaving_39 1 rfl ?_
    refine KGetIN C ul_X0 rfl (by decide) 3 3 rfl (by decide) rfl n_fn_RX4_76 (hBt.2.1 y (by omega)).2 (v := zln z (y : Int)) vy3 dX4_noteSaving_41 (fun _ h => h) ?_
    refine KIadd C dX4_noteSaving_44 ?_
    refine KIload_n C dX4_noteSaving_45 rfl 6 rfl ?_
    refine KIcmp_gt (tgt := 81) C dX4_noteSaving_46 (by decide) ⟨by omega, by omega⟩ ⟨by omega, by omega⟩ (fun c46 => ?_) (fun c46 => ?_)
    · refine KLvE (lv2 := [(6, .int (iI (svx z x y))), (5, .ref (wb w y)), (4, .ref (wb w x)), (0, .ref (q 3)), (1, .int (iI (x : Int))), (2, .int (iI (y : Int))), (3, .int (iI cp))]) (congrArg (fun zz : Int => ([(6, .int (iI zz)), (5, .ref (wb w y)), (4, .ref (wb w x)), (0, .ref (q 3)), (1, .int (iI (x : Int))), (2, .int (iI (y : Int))), (3, .int (iI cp))] : List (Nat × Value))) (show (0 : Int) = svx z x y from (by unfold svx; rw [if_neg hxy, saving_0 (by omega)]))) ?_
      refine KAload_n C dX4_noteSaving_81 rfl 3 rfl ?_
      refine KGetR C ul_X4 rfl (by decide) 2 2 rfl (by decide) rfl u_fl_RX4_20 (hT.at0 3 5) (b := q 13) (hT.ptr 3 2 13) dX4_noteSaving_82 (fun _ h => h) ?_
      refine KAload C dX4_noteSaving_85 2 rfl ?_
      refine KGetIN C ul_X0 rfl (by decide) 0 0 rfl (by decide) rfl n_fn_RX4_82 (hBt.2.1 x (by omega)).2 (v := ((rwn S w x : Nat) : Int)) (hBV.rw hx).1 dX4_noteSaving_87 (fun _ h => h) ?_
      refine KGaldR (b := q (30 + rwn S w x)) C 40 (hT.at0 13 22) (hT.ln0 13 40) ⟨by omega, by omega⟩ (by omega) (hT.sav hrx.2) dX4_noteSaving_90 ?_
      refine KAload C dX4_noteSaving_91 1 rfl ?_
      refine KGetIN C ul_X0 rfl (by decide) 0 0 rfl (by decide) rfl n_fn_RX4_82 (hBt.2.1 y (by omega)).2 (v := ((rwn S w y : Nat) : Int)) (hBV.rw hy).1 dX4_noteSaving_93 (fun _ h => h) ?_
      refine KIload C dX4_noteSaving_96 0 rfl ?_
      have hsx : -660 ≤ svx z x y ∧ svx z x y ≤ 1320 := by have h9 := zsv_b hW x y; unfold svx; split <;> omega
      refine KIast C 40 (hT.sat hrx.2) (hT.sln hrx.2) ⟨by omega, by omega⟩ (by omega) ⟨by omega, by omega⟩ dX4_noteSaving_98 ?_
      refine KAload_n C dX4_noteSaving_99 rfl 3 rfl ?_
      refine KGetR (S := uI S (q (30 + rwn S w x)) ((rwn S w y : Nat) : Int) (svx z x y)) C ul_X4 rfl (by decide) 2 2 rfl (by decide) rfl u_fl_RX4_20 (hT.at0 3 5) (b := q 13) (hT.ptr 3 2 13) dX4_noteSaving_100 (fun _ h => h) ?_
      refine KAload C dX4_noteSaving_103 1 rfl ?_
      refine KGetIN (S := uI S (q (30 + rwn S w x)) ((rwn S w y : Nat) : Int) (svx z x y)) C ul_X0 rfl (by decide) 0 0 rfl (by decide) rfl n_fn_RX4_82 (hBt.2.1 y (by omega)).2 (v := ((rwn S w y : Nat) : Int)) ((up2_ne _ _ _ _ (hT.nq (hBt.2.1 y hy).2 rfl (tix_sav _ hrx.2))).trans (hBV.rw hy).1) dX4_noteSaving_105 (fun _ h => h) ?_
      refine KGaldR (S := uI S (q (30 + rwn S w x)) ((rwn S w y : Nat) : Int) (svx z x y)) (b := q (30 + rwn S w y)) C 40 (hT.at0 13 22) (hT.ln0 13 40) ⟨by omega, by omega⟩ (by omega) (hT.sav hry.2) dX4_noteSaving_108 ?_
      refine KAload C dX4_noteSaving_109 2 rfl ?_
      refine KGetIN (S := uI S (q (30 + rwn S w x)) ((rwn S w y : Nat) : Int) (svx z x y)) C ul_X0 rfl (by decide) 0 0 rfl (by decide) rfl n_fn_RX4_82 (hBt.2.1 x (by omega)).2 (v := ((rwn S w x : Nat) : Int)) ((up2_ne _ _ _ _ (hT.nq (hBt.2.1 x hx).2 rfl (tix_sav _ hrx.2))).trans (hBV.rw hx).1) dX4_noteSaving_111 (fun _ h => h) ?_
      refine KIload C dX4_noteSaving_114 0 rfl ?_
      refine KIast (S := uI S (q (30 + rwn S w x)) ((rwn S w y : Nat) : Int) (svx z x y)) C 40 (hT.sat hry.2) (hT.sln hry.2) ⟨by omega, by omega⟩ (by omega) ⟨by omega, by omega⟩ dX4_noteSaving_116 ?_
      refine KVret C rfl (by
        first | exact ⟨rfl, note_fin (f := sI S) hT hBt hBV hx hy (Kept.refl hz)⟩ | exact ⟨rfl, note_fin hT hBt hBV hx hy hK75⟩) (by decide) (by decide) dX4_noteSaving_117
    · have hok := hW.okBB (a := (x : Int)) (b := (y : Int)) (by omega)
      have htb := zto_b hW hok
      refine KAload C dX4_noteSaving_49 2 rfl ?_
      refine KGetIN C ul_X0 rfl (by decide) 4 4 rfl (by decide) rfl n_fn_RX4_79 (hBt.2.1 x (by omega)).2 (v := zto z (zpd z (x : Int))) vx4 dX4_noteSaving_51 (fun _ h => h) ?_
      refine KAload C dX4_noteSaving_54 1 rfl ?_
      refine KGetIN C ul_X0 rfl (by decide) 4 4 rfl (by decide) rfl n_fn_RX4_79 (hBt.2.1 y (by omega)).2 (v := zto z (zpd z (y : Int))) vy4 dX4_noteSaving_56 (fun _ h => h) ?_
      refine KIadd C dX4_noteSaving_59 ?_
      refine KAload_n C dX4_noteSaving_60 rfl 3 rfl ?_
      refine KGetR C ul_X4 rfl (by decide) 0 0 rfl (by decide) rfl u_fl_RX4_23 (hT.at0 3 5) (b := q 2) (hT.ptr 3 0 2) dX4_noteSaving_61 (fun _ h => h) ?_
      refine KAload C dX4_noteSaving_64 2 rfl ?_
      refine KGetIN C ul_X0 rfl (by decide) 2 2 rfl (by decide) rfl n_fn_RX4_67 (hBt.2.1 x (by omega)).2 (v := ((zpd z (x : Int) : Nat) : Int)) vx2 dX4_noteSaving_66 (fun _ h => h) ?_
      refine KAload C dX4_noteSaving_69 1 rfl ?_
      refine KGetIN C ul_X0 rfl (by decide) 2 2 rfl (by decide) rfl n_fn_RX4_67 (hBt.2.1 y (by omega)).2 (v := ((zpd z (y : Int) : Nat) : Int)) vy2 dX4_noteSaving_71 (fun _ h => h) ?_
      refine KIor (v := iI ((zpd z (x : Int) ||| zpd z (y : Int) : Nat) : Int)) C dX4_noteSaving_74 (ib_or _ _) ?_
      refine KCallV (As := [.int (iI ((zpd z (x : Int) ||| zpd z (y : Int) : Nat) : Int))]) (b := q 2) (st := [.int (iI ((zto z (zpd z (x : Int))) + (zto z (zpd z (y : Int)))))]) C (ct_X2_leastLength l g S q (zpd z (x : Int) ||| zpd z (y : Int)) hT hCf (by rw [e11, e6]; exact hok) hz) u_ml_RX4_43 u_im_yX2_leastLength u_se_yX2_leastLength u_in_RX2 u_co_yX2_leastLength hd_yX2_leastLength (hT.at0 2 3) (by decide) rfl rfl ⟨Nat.le_of_ble_eq_true rfl, Nat.le_of_ble_eq_true rfl⟩ ⟨Nat.le_of_ble_eq_true rfl, Nat.le_of_ble_eq_true rfl⟩ (Nat.le_of_ble_eq_true rfl) dX4_noteSaving_75 rfl (fun v75 u75 hp75 => ?_)
      obtain ⟨rfl, f75, rfl, hK75⟩ := hp75
      refine KSt (st2 := [.int (iI (tour (sI S (q 1) 1) (sI S (q 1) 2) (sI S (q 6)) (zpd z (x : Int) ||| zpd z (y : Int)))), .int (iI ((zto z (zpd z (x : Int))) + (zto z (zpd z (y : Int)))))]) rfl ?_
      refine KRg (fun hR => ?_)
      refine KTop (congrArg iI (show tour (sI S (q 1) 1) (sI S (q 1) 2) (sI S (q 6)) (zpd z (x : Int) ||| zpd z (y : Int)) = zto z (zpd z (x : Int) ||| zpd z (y : Int)) from (by rw [e11, e12, e6]; rfl))) ?_
      refine KIsub C dX4_noteSaving_78 ?_
      refine KTop (congrArg iI (show ((zto z (zpd z (x : Int))) + (zto z (zpd z (y : Int)))) - (zto z (zpd z (x : Int) ||| zpd z (y : Int))) = svx z x y from (by unfold svx; rw [if_neg hxy]; exact saving_eq (by omega)))) ?_
      refine KIstore (lv' := [(6, .int (iI (svx z x y))), (5, .ref (wb w y)), (4, .ref (wb w x)), (0, .ref (q 3)), (1, .int (iI (x : Int))), (2, .int (iI (y : Int))), (3, .int (iI cp))]) C dX4_noteSaving_79 (by decide) rfl ?_
      refine KAload_n C dX4_noteSaving_81 rfl 3 rfl ?_
      refine KGetR (S := wI S f75) C ul_X4 rfl (by decide) 2 2 rfl (by decide) rfl u_fl_RX4_20 (hT.at0 3 5) (b := q 13) (hT.ptr 3 2 13) dX4_noteSaving_82 (fun _ h => h) ?_
      refine KAload C dX4_noteSaving_85 2 rfl ?_
      refine KGetIN (S := wI S f75) C ul_X0 rfl (by decide) 0 0 rfl (by decide) rfl n_fn_RX4_82 (hBt.2.1 x (by omega)).2 (v := ((rwn S w x : Nat) : Int)) ((congrFun (hK75.ob hT (hBt.2.1 x hx).2 rfl) _).trans (hBV.rw hx).1) dX4_noteSaving_87 (fun _ h => h) ?_
      refine KGaldR (S := wI S f75) (b := q (30 + rwn S w x)) C 40 (hT.at0 13 22) (hT.ln0 13 40) ⟨by omega, by omega⟩ (by omega) (hT.sav hrx.2) dX4_noteSaving_90 ?_
      refine KAload C dX4_noteSaving_91 1 rfl ?_
      refine KGetIN (S := wI S f75) C ul_X0 rfl (by decide) 0 0 rfl (by decide) rfl n_fn_RX4_82 (hBt.2.1 y (by omega)).2 (v := ((rwn S w y : Nat) : Int)) ((congrFun (hK75.ob hT (hBt.2.1 y hy).2 rfl) _).trans (hBV.rw hy).1) dX4_noteSaving_93 (fun _ h => h) ?_
      refine KIload C dX4_noteSaving_96 0 rfl ?_
      have hsx : -660 ≤ svx z x y ∧ svx z x y ≤ 1320 := by have h9 := zsv_b hW x y; unfold svx; split <;> omega
      refine KIast (S := wI S f75) C 40 (hT.sat hrx.2) (hT.sln hrx.2) ⟨by omega, by omega⟩ (by omega) ⟨by omega, by omega⟩ dX4_noteSaving_98 ?_
      refine KAload_n C dX4_noteSaving_99 rfl 3 rfl ?_
      refine KGetR (S := uI (wI S f75) (q (30 + rwn S w x)) ((rwn S w y : Nat) : Int) (svx z x y)) C ul_X4 rfl (by decide) 2 2 rfl (by decide) rfl u_fl_RX4_20 (hT.at0 3 5) (b := q 13) (hT.ptr 3 2 13) dX4_noteSaving_100 (fun _ h => h) ?_
      refine KAload C dX4_noteSaving_103 1 rfl ?_
      refine KGetIN (S := uI (wI S f75) (q (30 + rwn S w x)) ((rwn S w y : Nat) : Int) (svx z x y)) C ul_X0 rfl (by decide) 0 0 rfl (by decide) rfl n_fn_RX4_82 (hBt.2.1 y (by omega)).2 (v := ((rwn S w y : Nat) : Int)) ((up2_ne _ _ _ _ (hT.nq (hBt.2.1 y hy).2 rfl (tix_sav _ hrx.2))).trans ((congrFun (hK75.ob hT (hBt.2.1 y hy).2 rfl) _).trans (hBV.rw hy).1)) dX4_noteSaving_105 (fun _ h => h) ?_
      refine KGaldR (S := uI (wI S f75) (q (30 + rwn S w x)) ((rwn S w y : Nat) : Int) (svx z x y)) (b := q (30 + rwn S w y)) C 40 (hT.at0 13 22) (hT.ln0 13 40) ⟨by omega, by omega⟩ (by omega) (hT.sav hry.2) dX4_noteSaving_108 ?_
      refine KAload C dX4_noteSaving_109 2 rfl ?_
      refine KGetIN (S := uI (wI S f75) (q (30 + rwn S w x)) ((rwn S w y : Nat) : Int) (svx z x y)) C ul_X0 rfl (by decide) 0 0 rfl (by decide) rfl n_fn_RX4_82 (hBt.2.1 x (by omega)).2 (v := ((rwn S w x : Nat) : Int)) ((up2_ne _ _ _ _ (hT.nq (hBt.2.1 x hx).2 rfl (tix_sav _ hrx.2))).trans ((congrFun (hK75.ob hT (hBt.2.1 x hx).2 rfl) _).trans (hBV.rw hx).1)) dX4_noteSaving_111 (fun _ h => h) ?_
      refine KIload C dX4_noteSaving_114 0 rfl ?_
      refine KIast (S := uI (wI S f75) (q (30 + rwn S w x)) ((rwn S w y : Nat) : Int) (svx z x y)) C 40 (hT.sat hry.2) (hT.sln hry.2) ⟨by omega, by omega⟩ (by omega) ⟨by omega, by omega⟩ dX4_noteSaving_116 ?_
      refine KVret C rfl (by
        first | exact ⟨rfl, note_fin (f := sI S) hT hBt hBV hx hy (Kept.refl hz)⟩ | exact ⟨rfl, note_fin hT hBt hBV hx hy hK75⟩) (by decide) (by decide) dX4_noteSaving_117
def P_X4_joinBestPair (S : Sto) (q : Nat → Nat) (w : Shp) (z : Sig) (tt : Nat) : Option Value → Sto → Prop := fun v u => (¬ 0 < (zj z).1 ∧ v = some (.int (iI (-1))) ∧ S = u) ∨ ∃ x y M M2 : Nat, x < y ∧ y < zb z ∧ zj z = (zsv z x y, (x : Int), (y : Int)) ∧ 0 < zsv z x y ∧ v = some (.int (iI (x : Int))) ∧ (sJ S (wb w x) 1 = (M : Int) ∧ obs z x M) ∧ (sJ S (wb w y) 1 = (M2 : Int) ∧ obs z y M2) ∧ LRem (abS S (wb w x) (wb w y) M M2 (zpd z (x : Int)) (zpd z (y : Int)) (zsv z x y)) u tt (q 5) (w5 w) (k5 w) (zb z) y
set_option maxRecDepth 100000 in
set_option maxHeartbeats 4000000 in
theorem ct_X4_joinBestPair (l : Launch) (g : GG) (S : Sto) (q : Nat → Nat) (w : Shp) (z : Sig) (hT : Top S q) (hW : Wf z) (hCj : CRj S q (gT g) w z) (hTb : Tab S q w z (zb z) (fun _ _ => True)) (tt : Nat) (htt : tt = gT g) : MetS l g yX4_joinBestPair cX4_joinBestPair 7 (some FieldType.int) 5 0 0 [.ref (q 3)] S (P_X4_joinBestPair S q w z tt) := by
  refine MetS.of (own := RX4) (lv := [(0, .ref (q 3))]) (by decide) rfl (Nat.le_of_ble_eq_true rfl) rfl ?_
  intro pX eX sX mX argsX belowX methX cX C hin
  refine KRg (fun hR => ?_)
  obtain ⟨hWh, hBk, hOr, hBt, hBV, hz⟩ := id hCj
  have hn5 := hBt.1.2.2.2.1
  have hn60 := hBt.1.2.2.2.2.1
  obtain ⟨e10, e11, e12, e6, -, e04, -⟩ := id hWh
  have hC := hW.1
  have hCf : Cf S q := ⟨by omega, by omega, by omega, by omega, by omega, by omega⟩
  have ho40 := hW.2.1
  refine KIconst C dX4_joinBestPair_0 ?_
  refine KIstore_n (lv' := [(1, .int (iI 0)), (0, .ref (q 3))]) C dX4_joinBestPair_1 rfl (by decide) rfl ?_
  refine KIconst C dX4_joinBestPair_2 ?_
  refine KIstore_n (lv' := [(2, .int (iI (-1))), (1, .int (iI 0)), (0, .ref (q 3))]) C dX4_joinBestPair_3 rfl (by decide) rfl ?_
  refine KIconst C dX4_joinBestPair_4 ?_
  refine KIstore_n (lv' := [(3, .int (iI (-1))), (2, .int (iI (-1))), (1, .int (iI 0)), (0, .ref (q 3))]) C dX4_joinBestPair_5 rfl (by decide) rfl ?_
  refine KIconst C dX4_joinBestPair_6 ?_
  refine KIstore (lv' := [(4, .int (iI 0)), (3, .int (iI (-1))), (2, .int (iI (-1))), (1, .int (iI 0)), (0, .ref (q 3))]) C dX4_joinBestPair_7 (by decide) rfl ?_
  refine KLv (lv' := [(0, .ref (q 3)), (1, .int (iI 0)), (2, .int (iI (-1))), (3, .int (iI (-1))), (4, .int (iI 0))]) [4, 3, 2, 1, 0] rfl ?_
  have loop9 : ∀ (nX : Nat) (a : Nat), zb z - a < nX → (a ≤ zb z) → Wk pX l eX (rmK 5 0 0) sX mX argsX belowX methX cX (MQ belowX (QcG g (P_X4_joinBestPair S q w z tt)) argsX sX 0 0 (ge (gB g))) g 7 0 0 9 [(0, .ref (q 3)), (1, .int (iI ((jout (zsv z) (zb z) a).1))), (2, .int (iI ((jout (zsv z) (zb z) a).2.1))), (3, .int (iI ((jout (zsv z) (zb z) a).2.2))), (4, .int (iI (a : Int)))] [] S := by
    intro nX
    induction nX with
    | zero => intro a hm; exact absurd hm (Nat.not_lt_zero _)
    | succ nX ih9 =>
      intro a hm9 ha
      refine KRg (fun hR => ?_)
      have hjb := jout_b hW a
      refine KIload C dX4_joinBestPair_9 4 rfl ?_
      refine KAload_n C dX4_joinBestPair_11 rfl 0 rfl ?_
      refine KGetR C ul_X4 rfl (by decide) 1 1 rfl (by decide) rfl u_fl_RX4_12 (hT.at0 3 5) (b := q 5) (hT.ptr 3 1 5) dX4_joinBestPair_12 (fun _ h => h) ?_
      refine KCallV (As := []) (b := q 5) (st := [.int (iI (a : Int))]) C (ct_Jx4a65c_size_8abf5 l g S (q 5) (w5 w) (k5 w) (zb z) hBt.1) u_ml_RX4_31 u_im_yJx4a65c_size_8abf5 u_se_yJx4a65c_size_8abf5 u_in_RJx4a65c u_co_yJx4a65c_size_8abf5 hd_yJx4a65c_size_8abf5 (hT.at0 5 0) (by decide) rfl rfl ⟨Nat.le_of_ble_eq_true rfl, Nat.le_of_ble_eq_true rfl⟩ ⟨Nat.le_of_ble_eq_true rfl, Nat.le_of_ble_eq_true rfl⟩ (Nat.le_of_ble_eq_true rfl) dX4_joinBestPair_15 rfl (fun v15 u15 hp15 => ?_)
      obtain ⟨rfl, rfl⟩ := hp15
      refine KSt (st2 := [.int (iI ((zb z) : Int)), .int (iI (a : Int))]) rfl ?_
      refine KIcmp_ge (tgt := 76) C dX4_joinBestPair_18 (by decide) ⟨by omega, by omega⟩ ⟨by omega, by omega⟩ (fun c18 => ?_) (fun c18 => ?_)
      · have ha9 : a = zb z := by omega
        have hzb : 0 ≤ (zj z).1 ∧ (zj z).1 ≤ 1320 := jout_b hW (zb z)
        refine KLvE (lv2 := [(0, .ref (q 3)), (1, .int (iI ((zj z).1))), (2, .int (iI ((jout (zsv z) (zb z) a).2.1))), (3, .int (iI ((jout (zsv z) (zb z) a).2.2))), (4, .int (iI (a : Int)))]) (congrArg (fun zz : Int => ([(0, .ref (q 3)), (1, .int (iI zz)), (2, .int (iI ((jout (zsv z) (zb z) a).2.1))), (3, .int (iI ((jout (zsv z) (zb z) a).2.2))), (4, .int (iI (a : Int)))] : List (Nat × Value))) (show ((jout (zsv z) (zb z) a).1 : Int) = (zj z).1 from (by rw [ha9]; rfl))) ?_
        refine KLvE (lv2 := [(0, .ref (q 3)), (1, .int (iI ((zj z).1))), (2, .int (iI ((zj z).2.1))), (3, .int (iI ((jout (zsv z) (zb z) a).2.2))), (4, .int (iI (a : Int)))]) (congrArg (fun zz : Int => ([(0, .ref (q 3)), (1, .int (iI ((zj z).1))), (2, .int (iI zz)), (3, .int (iI ((jout (zsv z) (zb z) a).2.2))), (4, .int (iI (a : Int)))] : List (Nat × Value))) (show ((jout (zsv z) (zb z) a).2.1 : Int) = (zj z).2.1 from (by rw [ha9]; rfl))) ?_
        refine KLvE (lv2 := [(0, .ref (q 3)), (1, .int (iI ((zj z).1))), (2, .int (iI ((zj z).2.1))), (3, .int (iI ((zj z).2.2))), (4, .int (iI (a : Int)))]) (congrArg (fun zz : Int => ([(0, .ref (q 3)), (1, .int (iI ((zj z).1))), (2, .int (iI ((zj z).2.1))), (3, .int (iI zz)), (4, .int (iI (a : Int)))] : List (Nat × Value))) (show ((jout (zsv z) (zb z) a).2.2 : Int) = (zj z).2.2 from (by rw [ha9]; rfl))) ?_
        refine KIload_n C dX4_joinBestPair_76 rfl 1 rfl ?_
        refine KIf_le (tgt := 115) C dX4_joinBestPair_77 (by decide) ⟨by omega, by omega⟩ (fun c77 => ?_) (fun c77 => ?_)
        · have hj0 : (zj z).2 = (-1, -1) := by rcases zj_in (z := z) with ⟨-, e9⟩ | ⟨x9, y9, -, -, e9, h9⟩; exact e9; rw [e9] at c77; omega
          refine KLvE (lv2 := [(0, .ref (q 3)), (1, .int (iI ((zj z).1))), (2, .int (iI (-1))), (3, .int (iI ((zj z).2.2))), (4, .int (iI (a : Int)))]) (congrArg (fun zz : Int => ([(0, .ref (q 3)), (1, .int (iI ((zj z).1))), (2, .int (iI zz)), (3, .int (iI ((zj z).2.2))), (4, .int (iI (a : Int)))] : List (Nat × Value))) (show ((zj z).2.1 : Int) = (-1) from (by rw [hj0]))) ?_
          refine KIload_n C dX4_joinBestPair_115 rfl 2 rfl ?_
          refine KIret C rfl rfl (by
            first | exact Or.inl ⟨by omega, rfl, rfl⟩ | exact Or.inr ⟨x, y, M, M2, hxy, hyn, hzj, hsv, rfl, ⟨hM1, hM2⟩, ⟨hN1, hN2⟩, (by rw [htt]; exact hrem111)⟩) (by decide) (by decide) dX4_joinBestPair_116
        · obtain ⟨x, y, hxy, hyn, hzj, hsv⟩ : ∃ x y : Nat, x < y ∧ y < zb z ∧ zj z = (zsv z x y, (x : Int), (y : Int)) ∧ 0 < zsv z x y := by rcases zj_in (z := z) with ⟨e9, -⟩ | h9; omega; exact h9
          obtain ⟨-, vx2, vx3, vx4, M, hM1, hM2⟩ := hBV.1 x (by omega)
          obtain ⟨-, vy2, vy3, vy4, M2, hN1, hN2⟩ := hBV.1 y hyn
          have hlx := hW.ln0 (x : Int)
          have hly := hW.ln0 (y : Int)
          have htx := zto_b hW (hW.okB (hW.lnB (b := x) (by omega)))
          have hty := zto_b hW (hW.okB (hW.lnB hyn))
          have hsb := zsv_b hW x y
          have hnx5 : q 5 ≠ wb w x := fun e9 => hT.nq (hBt.2.1 x (by omega)).2 rfl (by decide) e9.symm
          have hpx := (hW.okB (hW.lnB (b := x) (by omega))).2.2
          have hpy := (hW.okB (hW.lnB hyn)).2.2
          refine KLvE (lv2 := [(0, .ref (q 3)), (1, .int (iI (zsv z x y))), (2, .int (iI ((zj z).2.1))), (3, .int (iI ((zj z).2.2))), (4, .int (iI (a : Int)))]) (congrArg (fun zz : Int => ([(0, .ref (q 3)), (1, .int (iI zz)), (2, .int (iI ((zj z).2.1))), (3, .int (iI ((zj z).2.2))), (4, .int (iI (a : Int)))] : List (Nat × Value))) (show ((zj z).1 : Int) = zsv z x y from (by rw [hzj]))) ?_
          refine KLvE (lv2 := [(0, .ref (q 3)), (1, .int (iI (zsv z x y))), (2, .int (iI (x : Int))), (3, .int (iI ((zj z).2.2))), (4, .int (iI (a : Int)))]) (congrArg (fun zz : Int => ([(0, .ref (q 3)), (1, .int (iI (zsv z x y))), (2, .int (iI zz)), (3, .int (iI ((zj z).2.2))), (4, .int (iI (a : Int)))] : List (Nat × Value))) (show ((zj z).2.1 : Int) = (x : Int) from (by rw [hzj]))) ?_
          refine KLvE (lv2 := [(0, .ref (q 3)), (1, .int (iI (zsv z x y))), (2, .int (iI (x : Int))), (3, .int (iI (y : Int))), (4, .int (iI (a : Int)))]) (congrArg (fun zz : Int => ([(0, .ref (q 3)), (1, .int (iI (zsv z x y))), (2, .int (iI (x : Int))), (3, .int (iI zz)), (4, .int (iI (a : Int)))] : List (Nat × Value))) (show ((zj z).2.2 : Int) = (y : Int) from (by rw [hzj]))) ?_
          refine KAload_n C dX4_joinBestPair_80 rfl 0 rfl ?_
          refine KGetR C ul_X4 rfl (by decide) 1 1 rfl (by decide) rfl u_fl_RX4_12 (hT.at0 3 5) (b := q 5) (hT.ptr 3 1 5) dX4_joinBestPair_81 (fun _ h => h) ?_
          refine KIload_n C dX4_joinBestPair_84 rfl 2 rfl ?_
          refine KCallV (As := [.int (iI (x : Int))]) (b := q 5) (st := []) C (ct_Jx4a65c_get_915e3 l g S (q 5) (w5 w) (k5 w) (zb z) hBt.1 x (wb w x) (by omega) ((hBt.2.1 x (by omega)).1)) u_ml_RX4_63 u_im_yJx4a65c_get_915e3 u_se_yJx4a65c_get_915e3 u_in_RJx4a65c u_co_yJx4a65c_get_915e3 hd_yJx4a65c_get_915e3 (hT.at0 5 0) (by decide) rfl rfl ⟨Nat.le_of_ble_eq_true rfl, Nat.le_of_ble_eq_true rfl⟩ ⟨Nat.le_of_ble_eq_true rfl, Nat.le_of_ble_eq_true rfl⟩ (Nat.le_of_ble_eq_true rfl) dX4_joinBestPair_85 rfl (fun v85 u85 hp85 => ?_)
          obtain ⟨rfl, rfl⟩ := hp85
          refine KSt (st2 := [.ref (wb w x)]) rfl ?_
          refine KCast C u_cl_RX4_35 (hBt.2.1 x (by omega)).2 (by decide) rfl rfl dX4_joinBestPair_88 ?_
          refine KAload_n C dX4_joinBestPair_91 rfl 0 rfl ?_
          refine KGetR C ul_X4 rfl (by decide) 1 1 rfl (by decide) rfl u_fl_RX4_12 (hT.at0 3 5) (b := q 5) (hT.ptr 3 1 5) dX4_joinBestPair_92 (fun _ h => h) ?_
          refine KIload_n C dX4_joinBestPair_95 rfl 3 rfl ?_
          refine KCallV (As := [.int (iI (y : Int))]) (b := q 5) (st := [.ref (wb w x)]) C (ct_Jx4a65c_get_915e3 l g S (q 5) (w5 w) (k5 w) (zb z) hBt.1 y (wb w y) (by omega) ((hBt.2.1 y (by omega)).1)) u_ml_RX4_63 u_im_yJx4a65c_get_915e3 u_se_yJx4a65c_get_915e3 u_in_RJx4a65c u_co_yJx4a65c_get_915e3 hd_yJx4a65c_get_915e3 (hT.at0 5 0) (by decide) rfl rfl ⟨Nat.le_of_ble_eq_true rfl, Nat.le_of_ble_eq_true rfl⟩ ⟨Nat.le_of_ble_eq_true rfl, Nat.le_of_ble_eq_true rfl⟩ (Nat.le_of_ble_eq_true rfl) dX4_joinBestPair_96 rfl (fun v96 u96 hp96 => ?_)
          obtain ⟨rfl, rfl⟩ := hp96
          refine KSt (st2 := [.ref (wb w y), .ref (wb w x)]) rfl ?_
          refine KCast C u_cl_RX4_35 (hBt.2.1 y (by omega)).2 (by decide) rfl rfl dX4_joinBestPair_99 ?_
          refine KIload_n C dX4_joinBestPair_102 rfl 1 rfl ?_
          refine KCallV (As := [.ref (wb w y), .int (iI (zsv z x y))]) (b := (wb w x)) (st := []) C (ct_X0_absorb l g S (wb w x) ((hBt.2.1 x (by omega)).2) (wb w y) (zsv z x y) ((hBt.2.1 y (by omega)).2) (fun e9 => absurd (hBt.2.2.1 y x hyn (by omega) e9) (by omega)) M M2 (⟨hM1, hN1⟩) (zpd z (x : Int)) (zpd z (y : Int)) (⟨vx2, vy2, hpx, hpy⟩) (by rw [vx3, vy3, vx4, vy4]; omega)) u_ml_RX4_89 u_im_yX0_absorb u_se_yX0_absorb u_in_RX0 u_co_yX0_absorb hd_yX0_absorb (hBt.2.1 x (by omega)).2 (by decide) rfl rfl ⟨Nat.le_of_ble_eq_true rfl, Nat.le_of_ble_eq_true rfl⟩ ⟨Nat.le_of_ble_eq_true rfl, Nat.le_of_ble_eq_true rfl⟩ (Nat.le_of_ble_eq_true rfl) dX4_joinBestPair_103 rfl (fun v103 u103 hp103 => ?_)
          obtain ⟨rfl, rfl⟩ := hp103
          refine KSt (st2 := []) rfl ?_
          refine KRg (fun hR => ?_)
          have hLs2 : Lst (abS S (wb w x) (wb w y) M M2 (zpd z (x : Int)) (zpd z (y : Int)) (zsv z x y)) (gT g) (q 5) (w5 w) (k5 w) (zb z) := hBt.1.fr (Gro.same rfl rfl rfl) rfl ((up2_ne _ _ _ _ hnx5).trans ((up2_ne _ _ _ _ hnx5).trans (up2_ne _ _ _ _ hnx5)))
          refine KAload_n C dX4_joinBestPair_106 rfl 0 rfl ?_
          refine KGetR (S := uI (uI (uI (uJ S (wb w x) 1 ((M ||| M2 : Nat) : Int)) (wb w x) 2 (((zpd z (x : Int)) ||| (zpd z (y : Int)) : Nat) : Int)) (wb w x) 3 (sI S (wb w x) 3 + sI S (wb w y) 3)) (wb w x) 4 (sI S (wb w x) 4 + (sI S (wb w y) 4 - (zsv z x y)))) C ul_X4 rfl (by decide) 1 1 rfl (by decide) rfl u_fl_RX4_12 (hT.at0 3 5) (b := q 5) (hT.ptr 3 1 5) dX4_joinBestPair_107 (fun _ h => h) ?_
          refine KIload_n C dX4_joinBestPair_110 rfl 3 rfl ?_
          refine KCallV (As := [.int (iI (y : Int))]) (b := q 5) (st := []) C (ct_Jx4a65c_remove_915e3 l g (uI (uI (uI (uJ S (wb w x) 1 ((M ||| M2 : Nat) : Int)) (wb w x) 2 (((zpd z (x : Int)) ||| (zpd z (y : Int)) : Nat) : Int)) (wb w x) 3 (sI S (wb w x) 3 + sI S (wb w y) 3)) (wb w x) 4 (sI S (wb w x) 4 + (sI S (wb w y) 4 - (zsv z x y)))) (q 5) y (w5 w) (k5 w) (zb z) (wb w y) hLs2 1 _ (by decide) rfl n_ca_RX0_java_lang_Object (fun j hj y9 hy9 => by have h8 := hBt.2.1 j hj; rw [show sP S (w5 w) (j : Int) = some y9 from hy9] at h8; exact (Option.some.inj h8.1).symm ▸ h8.2) (by omega) ((hBt.2.1 y hyn).1) (gT g) rfl) u_ml_RX4_93 u_im_yJx4a65c_remove_915e3 u_se_yJx4a65c_remove_915e3 u_in_RJx4a65c u_co_yJx4a65c_remove_915e3 hd_yJx4a65c_remove_915e3 (hT.at0 5 0) (by decide) rfl rfl ⟨Nat.le_of_ble_eq_true rfl, Nat.le_of_ble_eq_true rfl⟩ ⟨Nat.le_of_ble_eq_true rfl, Nat.le_of_ble_eq_true rfl⟩ (Nat.le_of_ble_eq_true rfl) dX4_joinBestPair_111 rfl (fun v111 u111 hp111 => ?_)
          obtain ⟨rfl, hrem111⟩ := hp111
          refine KSt (st2 := [.ref (wb w y)]) rfl ?_
          refine KRg (fun hR => ?_)
          refine KPop C dX4_joinBestPair_114 rfl ?_
          refine KIload_n C dX4_joinBestPair_115 rfl 2 rfl ?_
          refine KIret C rfl rfl (by
            first | exact Or.inl ⟨by omega, rfl, rfl⟩ | exact Or.inr ⟨x, y, M, M2, hxy, hyn, hzj, hsv, rfl, ⟨hM1, hM2⟩, ⟨hN1, hN2⟩, (by rw [htt]; exact hrem111)⟩) (by decide) (by decide) dX4_joinBestPair_116
      · refine KIload C dX4_joinBestPair_21 4 rfl ?_
        refine KIconst C dX4_joinBestPair_23 ?_
        refine KIadd C dX4_joinBestPair_24 ?_
        refine KTop (congrArg iI (show (a : Int) + 1 = ((a + 1 + 0 : Nat) : Int) from (by omega))) ?_
        refine KIstore (lv' := [(5, .int (iI ((a + 1 + 0 : Nat) : Int))), (0, .ref (q 3)), (1, .int (iI ((jout (zsv z) (zb z) a).1))), (2, .int (iI ((jout (zsv z) (zb z) a).2.1))), (3, .int (iI ((jout (zsv z) (zb z) a).2.2))), (4, .int (iI (a : Int)))]) C dX4_joinBestPair_25 (by decide) rfl ?_
        refine KLv (lv' := [(0, .ref (q 3)), (1, .int (iI ((jout (zsv z) (zb z) a).1))), (2, .int (iI ((jout (zsv z) (zb z) a).2.1))), (3, .int (iI ((jout (zsv z) (zb z) a).2.2))), (4, .int (iI (a : Int))), (5, .int (iI ((a + 1 + 0 : Nat) : Int)))]) [1, 2, 3, 4, 5, 0] rfl ?_
        have loop27 : ∀ (nX : Nat) (t : Nat), zb z - t < nX → (a + 1 + t ≤ zb z) → Wk pX l eX (rmK 5 0 0) sX mX argsX belowX methX cX (MQ belowX (QcG g (P_X4_joinBestPair S q w z tt)) argsX sX 0 0 (ge (gB g))) g 7 0 0 27 [(0, .ref (q 3)), (1, .int (iI ((zjb z a t).1))), (2, .int (iI ((zjb z a t).2.1))), (3, .int (iI ((zjb z a t).2.2))), (4, .int (iI (a : Int))), (5, .int (iI ((a + 1 + t : Nat) : Int)))] [] S := by
          intro nX
          induction nX with
          | zero => intro t hm; exact absurd hm (Nat.not_lt_zero _)
          | succ nX ih27 =>
            intro t hm27 ht
            refine KRg (fun hR => ?_)
            have hjb2 := zjb_b hW a t
            refine KIload C dX4_joinBestPair_27 5 rfl ?_
            refine KAload_n C dX4_joinBestPair_29 rfl 0 rfl ?_
            refine KGetR C ul_X4 rfl (by decide) 1 1 rfl (by decide) rfl u_fl_RX4_12 (hT.at0 3 5) (b := q 5) (hT.ptr 3 1 5) dX4_joinBestPair_30 (fun _ h => h) ?_
            refine KCallV (As := []) (b := q 5) (st := [.int (iI ((a + 1 + t : Nat) : Int))]) C (ct_Jx4a65c_size_8abf5 l g S (q 5) (w5 w) (k5 w) (zb z) hBt.1) u_ml_RX4_31 u_im_yJx4a65c_size_8abf5 u_se_yJx4a65c_size_8abf5 u_in_RJx4a65c u_co_yJx4a65c_size_8abf5 hd_yJx4a65c_size_8abf5 (hT.at0 5 0) (by decide) rfl rfl ⟨Nat.le_of_ble_eq_true rfl, Nat.le_of_ble_eq_true rfl⟩ ⟨Nat.le_of_ble_eq_true rfl, Nat.le_of_ble_eq_true rfl⟩ (Nat.le_of_ble_eq_true rfl) dX4_joinBestPair_33 rfl (fun v33 u33 hp33 => ?_)
            obtain ⟨rfl, rfl⟩ := hp33
            refine KSt (st2 := [.int (iI ((zb z) : Int)), .int (iI ((a + 1 + t : Nat) : Int))]) rfl ?_
            refine KIcmp_ge (tgt := 70) C dX4_joinBestPair_36 (by decide) ⟨by omega, by omega⟩ ⟨by omega, by omega⟩ (fun c36 => ?_) (fun c36 => ?_)
            · have hend := zjb_end (z := z) (a := a) (t := t) (by omega) (by omega)
              refine KLvE (lv2 := [(0, .ref (q 3)), (1, .int (iI ((jout (zsv z) (zb z) (a + 1)).1))), (2, .int (iI ((zjb z a t).2.1))), (3, .int (iI ((zjb z a t).2.2))), (4, .int (iI (a : Int))), (5, .int (iI ((a + 1 + t : Nat) : Int)))]) (congrArg (fun zz : Int => ([(0, .ref (q 3)), (1, .int (iI zz)), (2, .int (iI ((zjb z a t).2.1))), (3, .int (iI ((zjb z a t).2.2))), (4, .int (iI (a : Int))), (5, .int (iI ((a + 1 + t : Nat) : Int)))] : List (Nat × Value))) (show ((zjb z a t).1 : Int) = (jout (zsv z) (zb z) (a + 1)).1 from (by rw [hend]))) ?_
              refine KLvE (lv2 := [(0, .ref (q 3)), (1, .int (iI ((jout (zsv z) (zb z) (a + 1)).1))), (2, .int (iI ((jout (zsv z) (zb z) (a + 1)).2.1))), (3, .int (iI ((zjb z a t).2.2))), (4, .int (iI (a : Int))), (5, .int (iI ((a + 1 + t : Nat) : Int)))]) (congrArg (fun zz : Int => ([(0, .ref (q 3)), (1, .int (iI ((jout (zsv z) (zb z) (a + 1)).1))), (2, .int (iI zz)), (3, .int (iI ((zjb z a t).2.2))), (4, .int (iI (a : Int))), (5, .int (iI ((a + 1 + t : Nat) : Int)))] : List (Nat × Value))) (show ((zjb z a t).2.1 : Int) = (jout (zsv z) (zb z) (a + 1)).2.1 from (by rw [hend]))) ?_
              refine KLvE (lv2 := [(0, .ref (q 3)), (1, .int (iI ((jout (zsv z) (zb z) (a + 1)).1))), (2, .int (iI ((jout (zsv z) (zb z) (a + 1)).2.1))), (3, .int (iI ((jout (zsv z) (zb z) (a + 1)).2.2))), (4, .int (iI (a : Int))), (5, .int (iI ((a + 1 + t : Nat) : Int)))]) (congrArg (fun zz : Int => ([(0, .ref (q 3)), (1, .int (iI ((jout (zsv z) (zb z) (a + 1)).1))), (2, .int (iI ((jout (zsv z) (zb z) (a + 1)).2.1))), (3, .int (iI zz)), (4, .int (iI (a : Int))), (5, .int (iI ((a + 1 + t : Nat) : Int)))] : List (Nat × Value))) (show ((zjb z a t).2.2 : Int) = (jout (zsv z) (zb z) (a + 1)).2.2 from (by rw [hend]))) ?_
              refine KIinc (v := ((a + 1 : Nat) : Int)) (lv' := [(4, .int (iI ((a + 1 : Nat) : Int))), (0, .ref (q 3)), (1, .int (iI ((jout (zsv z) (zb z) (a + 1)).1))), (2, .int (iI ((jout (zsv z) (zb z) (a + 1)).2.1))), (3, .int (iI ((jout (zsv z) (zb z) (a + 1)).2.2))), (5, .int (iI ((a + 1 + t : Nat) : Int)))]) C dX4_joinBestPair_70 4 rfl (by omega) (by decide) rfl ?_
              refine KGoto (tgt := 9) C dX4_joinBestPair_73 (by decide) ?_
              refine KLv (lv' := [(0, .ref (q 3)), (1, .int (iI ((jout (zsv z) (zb z) (a + 1)).1))), (2, .int (iI ((jout (zsv z) (zb z) (a + 1)).2.1))), (3, .int (iI ((jout (zsv z) (zb z) (a + 1)).2.2))), (4, .int (iI ((a + 1 : Nat) : Int)))]) [1, 2, 3, 4, 0] rfl ?_
              exact ih9 (a + 1) (by omega) (by omega)
            · refine KAload_n C dX4_joinBestPair_39 rfl 0 rfl ?_
              refine KIload C dX4_joinBestPair_40 4 rfl ?_
              refine KIload C dX4_joinBestPair_42 5 rfl ?_
              refine KCallV (As := [.int (iI (a : Int)), .int (iI ((a + 1 + t : Nat) : Int))]) (b := q 3) (st := []) C (ct_X4_savingOf l g S q a (a + 1 + t) w (zb z) z hT hBt hBV (by omega) (by omega)) u_ml_RX4_85 u_im_yX4_savingOf u_se_yX4_savingOf u_in_RX4 u_co_yX4_savingOf hd_yX4_savingOf (hT.at0 3 5) (by decide) rfl rfl ⟨Nat.le_of_ble_eq_true rfl, Nat.le_of_ble_eq_true rfl⟩ ⟨Nat.le_of_ble_eq_true rfl, Nat.le_of_ble_eq_true rfl⟩ (Nat.le_of_ble_eq_true rfl) dX4_joinBestPair_44 rfl (fun v44 u44 hp44 => ?_)
              obtain ⟨rfl, rfl⟩ := hp44
              refine KSt (st2 := [.int (iI (sI S (q (30 + rwn S w a)) ((rwn S w (a + 1 + t) : Nat) : Int)))]) rfl ?_
              refine KTop (congrArg iI (show sI S (q (30 + rwn S w a)) ((rwn S w (a + 1 + t) : Nat) : Int) = zsv z a (a + 1 + t) from (hTb a (a + 1 + t) (by omega) (by omega) (by omega) trivial))) ?_
              have hsb := zsv_b hW a (a + 1 + t)
              refine KIstore (lv' := [(6, .int (iI (zsv z a (a + 1 + t)))), (0, .ref (q 3)), (1, .int (iI ((zjb z a t).1))), (2, .int (iI ((zjb z a t).2.1))), (3, .int (iI ((zjb z a t).2.2))), (4, .int (iI (a : Int))), (5, .int (iI ((a + 1 + t : Nat) : Int)))]) C dX4_joinBestPair_47 (by decide) rfl ?_
              refine KIload C dX4_joinBestPair_49 0 rfl ?_
              refine KIload_n C dX4_joinBestPair_51 rfl 2 rfl ?_
              refine KIcmp_le (tgt := 64) C dX4_joinBestPair_52 (by decide) ⟨by omega, by omega⟩ ⟨by omega, by omega⟩ (fun c52 => ?_) (fun c52 => ?_)
              · have hjf := zjb_f (z := z) (a := a) (t := t) (by omega)
                refine KLvE (lv2 := [(6, .int (iI (zsv z a (a + 1 + t)))), (0, .ref (q 3)), (1, .int (iI ((zjb z a (t + 1)).1))), (2, .int (iI ((zjb z a t).2.1))), (3, .int (iI ((zjb z a t).2.2))), (4, .int (iI (a : Int))), (5, .int (iI ((a + 1 + t : Nat) : Int)))]) (congrArg (fun zz : Int => ([(6, .int (iI (zsv z a (a + 1 + t)))), (0, .ref (q 3)), (1, .int (iI zz)), (2, .int (iI ((zjb z a t).2.1))), (3, .int (iI ((zjb z a t).2.2))), (4, .int (iI (a : Int))), (5, .int (iI ((a + 1 + t : Nat) : Int)))] : List (Nat × Value))) (show ((zjb z a t).1 : Int) = (zjb z a (t + 1)).1 from (by rw [hjf]))) ?_
                refine KLvE (lv2 := [(6, .int (iI (zsv z a (a + 1 + t)))), (0, .ref (q 3)), (1, .int (iI ((zjb z a (t + 1)).1))), (2, .int (iI ((zjb z a (t + 1)).2.1))), (3, .int (iI ((zjb z a t).2.2))), (4, .int (iI (a : Int))), (5, .int (iI ((a + 1 + t : Nat) : Int)))]) (congrArg (fun zz : Int => ([(6, .int (iI (zsv z a (a + 1 + t)))), (0, .ref (q 3)), (1, .int (iI ((zjb z a (t + 1)).1))), (2, .int (iI zz)), (3, .int (iI ((zjb z a t).2.2))), (4, .int (iI (a : Int))), (5, .int (iI ((a + 1 + t : Nat) : Int)))] : List (Nat × Value))) (show ((zjb z a t).2.1 : Int) = (zjb z a (t + 1)).2.1 from (by rw [hjf]))) ?_
                refine KLvE (lv2 := [(6, .int (iI (zsv z a (a + 1 + t)))), (0, .ref (q 3)), (1, .int (iI ((zjb z a (t + 1)).1))), (2, .int (iI ((zjb z a (t + 1)).2.1))), (3, .int (iI ((zjb z a (t + 1)).2.2))), (4, .int (iI (a : Int))), (5, .int (iI ((a + 1 + t : Nat) : Int)))]) (congrArg (fun zz : Int => ([(6, .int (iI (zsv z a (a + 1 + t)))), (0, .ref (q 3)), (1, .int (iI ((zjb z a (t + 1)).1))), (2, .int (iI ((zjb z a (t + 1)).2.1))), (3, .int (iI zz)), (4, .int (iI (a : Int))), (5, .int (iI ((a + 1 + t : Nat) : Int)))] : List (Nat × Value))) (show ((zjb z a t).2.2 : Int) = (zjb z a (t + 1)).2.2 from (by rw [hjf]))) ?_
                refine KIinc (v := ((a + 1 + (t + 1) : Nat) : Int)) (lv' := [(5, .int (iI ((a + 1 + (t + 1) : Nat) : Int))), (6, .int (iI (zsv z a (a + 1 + t)))), (0, .ref (q 3)), (1, .int (iI ((zjb z a (t + 1)).1))), (2, .int (iI ((zjb z a (t + 1)).2.1))), (3, .int (iI ((zjb z a (t + 1)).2.2))), (4, .int (iI (a : Int)))]) C dX4_joinBestPair_64 6 rfl (by omega) (by decide) rfl ?_
                refine KGoto (tgt := 27) C dX4_joinBestPair_67 (by decide) ?_
                refine KLv (lv' := [(0, .ref (q 3)), (1, .int (iI ((zjb z a (t + 1)).1))), (2, .int (iI ((zjb z a (t + 1)).2.1))), (3, .int (iI ((zjb z a (t + 1)).2.2))), (4, .int (iI (a : Int))), (5, .int (iI ((a + 1 + (t + 1) : Nat) : Int)))]) [2, 3, 4, 5, 6, 0] rfl ?_
                exact ih27 (t + 1) (by omega) (by omega)
              · have hjt := zjb_t (z := z) (a := a) (t := t) (by omega)
                refine KIload C dX4_joinBestPair_55 0 rfl ?_
                refine KTop (congrArg iI (show zsv z a (a + 1 + t) = (zjb z a (t + 1)).1 from (by rw [hjt]))) ?_
                refine KIstore_n (lv' := [(1, .int (iI ((zjb z a (t + 1)).1))), (6, .int (iI (zsv z a (a + 1 + t)))), (0, .ref (q 3)), (2, .int (iI ((zjb z a t).2.1))), (3, .int (iI ((zjb z a t).2.2))), (4, .int (iI (a : Int))), (5, .int (iI ((a + 1 + t : Nat) : Int)))]) C dX4_joinBestPair_57 rfl (by decide) rfl ?_
                refine KIload C dX4_joinBestPair_58 5 rfl ?_
                refine KTop (congrArg iI (show (a : Int) = (zjb z a (t + 1)).2.1 from (by rw [hjt]))) ?_
                refine KIstore_n (lv' := [(2, .int (iI ((zjb z a (t + 1)).2.1))), (1, .int (iI ((zjb z a (t + 1)).1))), (6, .int (iI (zsv z a (a + 1 + t)))), (0, .ref (q 3)), (3, .int (iI ((zjb z a t).2.2))), (4, .int (iI (a : Int))), (5, .int (iI ((a + 1 + t : Nat) : Int)))]) C dX4_joinBestPair_60 rfl (by decide) rfl ?_
                refine KIload C dX4_joinBestPair_61 6 rfl ?_
                refine KTop (congrArg iI (show ((a + 1 + t : Nat) : Int) = (zjb z a (t + 1)).2.2 from (by rw [hjt]))) ?_
                refine KIstore_n (lv' := [(3, .int (iI ((zjb z a (t + 1)).2.2))), (2, .int (iI ((zjb z a (t + 1)).2.1))), (1, .int (iI ((zjb z a (t + 1)).1))), (6, .int (iI (zsv z a (a + 1 + t)))), (0, .ref (q 3)), (4, .int (iI (a : Int))), (5, .int (iI ((a + 1 + t : Nat) : Int)))]) C dX4_joinBestPair_63 rfl (by decide) rfl ?_
                refine KIinc (v := ((a + 1 + (t + 1) : Nat) : Int)) (lv' := [(5, .int (iI ((a + 1 + (t + 1) : Nat) : Int))), (3, .int (iI ((zjb z a (t + 1)).2.2))), (2, .int (iI ((zjb z a (t + 1)).2.1))), (1, .int (iI ((zjb z a (t + 1)).1))), (6, .int (iI (zsv z a (a + 1 + t)))), (0, .ref (q 3)), (4, .int (iI (a : Int)))]) C dX4_joinBestPair_64 6 rfl (by omega) (by decide) rfl ?_
                refine KGoto (tgt := 27) C dX4_joinBestPair_67 (by decide) ?_
                refine KLv (lv' := [(0, .ref (q 3)), (1, .int (iI ((zjb z a (t + 1)).1))), (2, .int (iI ((zjb z a (t + 1)).2.1))), (3, .int (iI ((zjb z a (t + 1)).2.2))), (4, .int (iI (a : Int))), (5, .int (iI ((a + 1 + (t + 1) : Nat) : Int)))]) [5, 3, 2, 1, 6, 0] rfl ?_
                exact ih27 (t + 1) (by omega) (by omega)
        exact loop27 _ 0 (Nat.lt_succ_self _) (by omega)
  exact loop9 _ 0 (Nat.lt_succ_self _) (by omega)
