def P_X4_take (S : Sto) (q : Nat → Nat) (o : Nat) (w : Shp) (z : Sig) (n : Nat) (tt : Nat) : Option Value → Sto → Prop := fun v u => v = none ∧ (∃ w', CRj u q tt w' z ∧ ∀ b : Nat, b < n + 1 → sI u (wb w' b) 0 = (b : Int)) ∧ Gro S u ∧ OutM S q u ∧ Top u q
set_option maxRecDepth 100000 in
set_option maxHeartbeats 4000000 in
theorem ct_X4_take (l : Launch) (g : GG) (S : Sto) (q : Nat → Nat) (o : Nat) (w : Shp) (z : Sig) (n : Nat) (hT : Top S q) (hTk : Tkp S q (gT g) w z n o) (hCz : 1 ≤ zA z ∧ zA z ≤ 6 ∧ 1 ≤ zN z ∧ zN z ≤ 20 ∧ 1 ≤ zG z ∧ zG z ≤ 9) (hok : okM (zN z) (zP z) (zW z o)) (tt : Nat) (htt : tt = gT g) : MetS l g yX4_take cX4_take 3 (none) 8 3 66 [.ref (q 3), .int (iI (o : Int)), .ref (wo w o)] S (P_X4_take S q o w z n tt) := by
  refine MetS.of (own := RX4) (lv := [(0, .ref (q 3)), (1, .int (iI (o : Int))), (2, .ref (wo w o))]) (by decide) rfl (Nat.le_of_ble_eq_true rfl) rfl ?_
  intro pX eX sX mX argsX belowX methX cX C hin
  refine KRg (fun hR => ?_)
  have hTkp := hTk
  obtain ⟨⟨hWh, hBk, hOr, hBt, hBV, hz⟩, hrow, ez, ep, el, eo, hn40, hoz, ho40⟩ := id hTk
  have hn5 := hBt.1.2.2.2.1
  have hn60 := hBt.1.2.2.2.2.1
  obtain ⟨e10, e11, e12, e6, -⟩ := id hWh
  have hCf : Cf S q := ⟨by omega, by omega, by omega, by omega, by omega, by omega⟩
  obtain ⟨-, oz2, -, -⟩ := hOr o hoz
  have hwo := (hBk.2.1 o hoz).2.1
  have hlt := hok.2.2
  have htb := tour_b (G := zG z) ⟨by omega, by omega⟩ ⟨by omega, by omega⟩ hok
  refine KAload_n C dX4_take_0 rfl 0 rfl ?_
  refine KGetR C ul_X4 rfl (by decide) 1 1 rfl (by decide) rfl u_fl_RX4_12 (hT.at0 3 5) (b := q 5) (hT.ptr 3 1 5) dX4_take_1 (fun _ h => h) ?_
  refine KNew C ul_X0 rfl (by decide) tyX0 tyX0_ok u_cl_RX4_35 u_is_RX0 u_in_RX0 nf_X0 ⟨by show _ + 1 ≤ 3; omega, by show _ + 6 ≤ 66; omega⟩ dX4_take_4 (fun a4 ha4 => ?_)
  obtain ⟨hF4, hO4, hT4⟩ := nw_fra hT hz ha4 1 0
  have hT0 := hT
  have hT : Top (nw S a4 1 0) q := hT4
  have hWh4 := hWh.fra hT0 hF4
  have hBt4 := hBt.fra hT0 hF4
  have hwo0 := hwo
  have hwo : At0 (nw S a4 1 0) (wo w o) 2 := hF4.1.at hwo0
  have e4 : sI (nw S a4 1 0) (wo w o) 2 = ((zW z o : Nat) : Int) := by rw [(hF4.2.1 _ hwo0.1 (hT0.ns21 hwo0 rfl)).1]; exact oz2
  obtain ⟨f10, f11, f12, f6, -⟩ := id hWh4
  have hCf4 : Cf (nw S a4 1 0) q := ⟨by omega, by omega, by omega, by omega, by omega, by omega⟩
  refine KDup C dX4_take_7 rfl ?_
  refine KAload_n C dX4_take_8 rfl 0 rfl ?_
  refine KGetR (S := nw S a4 1 0) C ul_X4 rfl (by decide) 1 1 rfl (by decide) rfl u_fl_RX4_12 (hT.at0 3 5) (b := q 5) (hT.ptr 3 1 5) dX4_take_9 (fun _ h => h) ?_
  refine KCallV (As := []) (b := q 5) (st := [.ref a4, .ref a4, .ref (q 5)]) C (ct_Jx4a65c_size_8abf5 l g (nw S a4 1 0) (q 5) (w5 w) (k5 w) n hBt4.1) u_ml_RX4_31 u_im_yJx4a65c_size_8abf5 u_se_yJx4a65c_size_8abf5 u_in_RJx4a65c u_co_yJx4a65c_size_8abf5 hd_yJx4a65c_size_8abf5 (hT.at0 5 0) (by decide) rfl rfl ⟨Nat.le_of_ble_eq_true rfl, Nat.le_of_ble_eq_true rfl⟩ ⟨Nat.le_of_ble_eq_true rfl, Nat.le_of_ble_eq_true rfl⟩ (Nat.le_of_ble_eq_true rfl) dX4_take_12 rfl (fun v12 u12 hp12 => ?_)
  obtain ⟨rfl, rfl⟩ := hp12
  refine KSt (st2 := [.int (iI (n : Int)), .ref a4, .ref a4, .ref (q 5)]) rfl ?_
  refine KRg (fun hR => ?_)
  refine KIload_n C dX4_take_15 rfl 1 rfl ?_
  refine KAload_n C dX4_take_16 rfl 2 rfl ?_
  refine KAload_n C dX4_take_17 rfl 0 rfl ?_
  refine KGetR (S := nw S a4 1 0) C ul_X4 rfl (by decide) 0 0 rfl (by decide) rfl u_fl_RX4_23 (hT.at0 3 5) (b := q 2) (hT.ptr 3 0 2) dX4_take_18 (fun _ h => h) ?_
  refine KAload_n C dX4_take_21 rfl 2 rfl ?_
  refine KGetIN (S := nw S a4 1 0) C ul_X1 rfl (by decide) 2 2 rfl (by decide) rfl n_fn_RX4_37 hwo (v := ((zW z o : Nat) : Int)) e4 dX4_take_22 (fun _ h => h) ?_
  refine KCallV (As := [.int (iI ((zW z o : Nat) : Int))]) (b := q 2) (st := [.ref (wo w o), .int (iI (o : Int)), .int (iI (n : Int)), .ref a4, .ref a4, .ref (q 5)]) C (ct_X2_leastLength l g (nw S a4 1 0) q (zW z o) hT hCf4 (by rw [f11, f6]; exact hok) hF4.2.2) u_ml_RX4_43 u_im_yX2_leastLength u_se_yX2_leastLength u_in_RX2 u_co_yX2_leastLength hd_yX2_leastLength (hT.at0 2 3) (by decide) rfl rfl ⟨Nat.le_of_ble_eq_true rfl, Nat.le_of_ble_eq_true rfl⟩ ⟨Nat.le_of_ble_eq_true rfl, Nat.le_of_ble_eq_true rfl⟩ (Nat.le_of_ble_eq_true rfl) dX4_take_25 rfl (fun v25 u25 hp25 => ?_)
  obtain ⟨rfl, f25, rfl, hK25⟩ := hp25
  refine KSt (st2 := [.int (iI (tour (sI (nw S a4 1 0) (q 1) 1) (sI (nw S a4 1 0) (q 1) 2) (sI (nw S a4 1 0) (q 6)) (zW z o))), .ref (wo w o), .int (iI (o : Int)), .int (iI (n : Int)), .ref a4, .ref a4, .ref (q 5)]) rfl ?_
  refine KRg (fun hR => ?_)
  refine KTop (congrArg iI (show tour (sI (nw S a4 1 0) (q 1) 1) (sI (nw S a4 1 0) (q 1) 2) (sI (nw S a4 1 0) (q 6)) (zW z o) = zto z (zW z o) from (by rw [f11, f12, f6]; rfl))) ?_
  obtain ⟨hF5, hO5, hT5⟩ := Kept.fra2 hF4 hO4 hT4 hK25
  have ha25 : At0 (wI (nw S a4 1 0) f25) a4 1 := nw_at (S := S) (a := a4) (kd := 1) (n := 0)
  have e25 : sI (wI (nw S a4 1 0) f25) (wo w o) 2 = ((zW z o : Nat) : Int) := (congrFun (hK25.ob hT hwo rfl) 2).trans e4
  change 0 ≤ zto z (zW z o) ∧ zto z (zW z o) ≤ 660 at htb
  refine KCallI (As := [.int (iI (n : Int)), .int (iI (o : Int)), .ref (wo w o), .int (iI (zto z (zW z o)))]) (b := a4) (st := [.ref a4, .ref (q 5)]) C (ct_X0_init l g (wI (nw S a4 1 0) f25) a4 (n : Int) o (wo w o) (zto z (zW z o)) (zW z o) ha25 hwo e25 hlt (by omega) (⟨⟨by omega, by omega⟩, ⟨by omega, by omega⟩⟩)) u_ml_RX4_49 u_im_yX0_init u_in_RX0 u_co_yX0_init rfl hd_yX0_init.2 ⟨Nat.le_of_ble_eq_true rfl, Nat.le_of_ble_eq_true rfl⟩ ⟨Nat.le_of_ble_eq_true rfl, Nat.le_of_ble_eq_true rfl⟩ (Nat.le_of_ble_eq_true rfl) dX4_take_28 rfl (fun v28 u28 hp28 => ?_)
  obtain ⟨rfl, e28, he28, rfl⟩ := hp28
  refine KSt (st2 := [.ref a4, .ref (q 5)]) rfl ?_
  refine KRg (fun hR => ?_)
  obtain ⟨hF6, hO6, hT6⟩ := own_fra (u := (uI (uI (uI (uJ (uI (uP (nw (wI (nw S a4 1 0) f25) e28 20 0) a4 5 (some e28)) a4 0 (n : Int)) a4 1 ((2 ^ o : Nat) : Int)) a4 2 ((zW z o) : Int)) a4 3 ((cntb (zW z o) 20 : Nat) : Int)) a4 4 (zto z (zW z o)))) hT0 (hF5.trans (nw_fra hT5 hF5.2.2 he28 20 0).1) (hO5.trans (nw_fra hT5 hF5.2.2 he28 20 0).2.1) (nw_fra hT5 hF5.2.2 he28 20 0).2.2 ha4 (Gro.same rfl rfl rfl) (fun x9 h9 => (up2_row _ _ _ h9).trans ((up2_row _ _ _ h9).trans ((up2_row _ _ _ h9).trans (up2_row _ _ _ h9)))) (fun x9 h9 => up2_row _ _ _ h9) (fun x9 h9 => up2_row _ _ _ h9)
  have ha28 : At0 (uI (uI (uI (uJ (uI (uP (nw (wI (nw S a4 1 0) f25) e28 20 0) a4 5 (some e28)) a4 0 (n : Int)) a4 1 ((2 ^ o : Nat) : Int)) a4 2 ((zW z o) : Int)) a4 3 ((cntb (zW z o) 20 : Nat) : Int)) a4 4 (zto z (zW z o))) a4 1 := (nw_fra hT5 hF5.2.2 he28 20 0).1.1.at ha25
  have hBt6 := hBt.fra hT0 hF6
  refine KCallV (As := [.ref a4]) (b := q 5) (st := []) C (ct_Jx4a65c_add_9ea2d l g (uI (uI (uI (uJ (uI (uP (nw (wI (nw S a4 1 0) f25) e28 20 0) a4 5 (some e28)) a4 0 (n : Int)) a4 1 ((2 ^ o : Nat) : Int)) a4 2 ((zW z o) : Int)) a4 3 ((cntb (zW z o) 20 : Nat) : Int)) a4 4 (zto z (zW z o))) (q 5) a4 (w5 w) (k5 w) n hBt6.1 1 _ (by decide) rfl n_ca_RX0_java_lang_Object (fun j hj y9 hy9 => by have h8 := hBt6.2.1 j hj; have h7 := h8.1.symm.trans hy9; exact (Option.some.inj h7) ▸ h8.2) ha28 (by omega) (gT g) rfl) u_ml_RX4_52 u_im_yJx4a65c_add_9ea2d u_se_yJx4a65c_add_9ea2d u_in_RJx4a65c u_co_yJx4a65c_add_9ea2d hd_yJx4a65c_add_9ea2d (hT6.at0 5 0) (by decide) rfl rfl ⟨Nat.le_of_ble_eq_true rfl, Nat.le_of_ble_eq_true rfl⟩ ⟨Nat.le_of_ble_eq_true rfl, Nat.le_of_ble_eq_true rfl⟩ (Nat.le_of_ble_eq_true rfl) dX4_take_31 rfl (fun v31 u31 hp31 => ?_)
  obtain ⟨rfl, hadd31⟩ := hp31
  refine KSt (st2 := [.int (iI 1)]) rfl ?_
  refine KRg (fun hR => ?_)
  refine KNoT C (fun hnT => ?_)
  have hfin := take_fin hT0 hTk hF6 hO6 hT6 ha4 ha28 ((up2_nk _ _ _ _ (by decide)).trans ((up2_nk _ _ _ _ (by decide)).trans ((up2_nk _ _ _ _ (by decide)).trans (up2_same _ _ _ _)))) (up2_same _ _ _ _) ((up2_nk _ _ _ _ (by decide)).trans ((up2_nk _ _ _ _ (by decide)).trans (up2_same _ _ _ _))) ((up2_nk _ _ _ _ (by decide)).trans (up2_same _ _ _ _)) (up2_same _ _ _ _) hadd31 hnT
  refine KPop C dX4_take_34 rfl ?_
  refine KVret C rfl (by
    exact ⟨rfl, by rw [htt]; exact hfin⟩) (by decide) (by decide) dX4_take_35
