def P_X1_init (S : Sto) (a : Nat) (x : Int) : Option Value → Sto → Prop := fun v u => v = none ∧ ∃ e, e ∉ sL S ∧ u = uI (uI (uP (nw S e 20 20) a 1 (some e)) a 3 0) a 0 x
set_option maxRecDepth 100000 in
set_option maxHeartbeats 4000000 in
theorem ct_X1_init (l : Launch) (g : GG) (S : Sto) (a : Nat) (x : Int) (ha : At0 S a 2) (hx : inR x) : MetS l g yX1_init cX1_init 2 (none) 1 1 20 [.ref a, .int (iI x)] S (P_X1_init S a x) := by
  refine MetS.of (own := RX1) (lv := [(0, .ref a), (1, .int (iI x))]) (by decide) rfl (Nat.le_of_ble_eq_true rfl) rfl ?_
  intro pX eX sX mX argsX belowX methX cX C hin
  refine KRg (fun hR => ?_)
  obtain ⟨hx1, hx2⟩ := hx
  refine KAload_n C dX1_init_0 rfl 0 rfl ?_
  refine KObjInit C u_ml_RX1_3 dX1_init_1 ⟨Nat.le_of_ble_eq_true rfl, Nat.le_of_ble_eq_true rfl⟩ ?_
  refine KAload_n C dX1_init_4 rfl 0 rfl ?_
  refine KBipush C dX1_init_5 (by decide) ?_
  refine KNewaI C 20 (by omega) (by omega) u_ac_97 ⟨by show _ + 1 ≤ 1; omega, by show _ + _ ≤ 20; omega⟩ dX1_init_7 (fun a7 ha7 => ?_)
  have ha0 := ha
  have ha : At0 (nw S a7 20 20) a 2 := (Ext.nw ha7 20 20).gro.at ha0
  refine KPutRF (S := nw S a7 20 20) (ty := (.array .int)) C ul_X1 rfl (by decide) 1 1 rfl (by decide) rfl u_fl_RX1_9 tyX1 tyX1_ok nmX1 ha (by decide +kernel) rfl rfl rfl hin rfl dX1_init_9 (fun _ h => h) ?_
  refine KAload_n C dX1_init_12 rfl 0 rfl ?_
  refine KIconst C dX1_init_13 ?_
  refine KPutI (S := uP (nw S a7 20 20) a 1 (some a7)) (ty := .int) (v := 0) C ul_X1 rfl (by decide) 3 3 rfl (by decide) rfl u_fl_RX1_15 tyX1 tyX1_ok nmX1 ha ⟨by omega, by omega⟩ (by decide +kernel) rfl rfl rfl dX1_init_14 (fun _ h => h) ?_
  refine KAload_n C dX1_init_17 rfl 0 rfl ?_
  refine KIload_n C dX1_init_18 rfl 1 rfl ?_
  refine KPutIF (S := uI (uP (nw S a7 20 20) a 1 (some a7)) a 3 0) (ty := .int) (v := x) C ul_X1 rfl (by decide) 0 0 rfl (by decide) rfl u_fl_RX1_19 tyX1 tyX1_ok nmX1 ha ⟨by omega, by omega⟩ (by decide +kernel) rfl rfl rfl hin rfl dX1_init_19 (fun _ h => h) ?_
  refine KVret C rfl (by
    exact ⟨rfl, a7, ha7, rfl⟩) (by decide) (by decide) dX1_init_22
def P_X0_init (S : Sto) (a : Nat) (y : Int) (o : Nat) (b : Nat) (x : Int) (m : Nat) : Option Value → Sto → Prop := fun v u => v = none ∧ ∃ e, e ∉ sL S ∧ u = uI (uI (uI (uJ (uI (uP (nw S e 20 0) a 5 (some e)) a 0 y) a 1 ((2 ^ o : Nat) : Int)) a 2 (m : Int)) a 3 ((cntb m 20 : Nat) : Int)) a 4 x
set_option maxRecDepth 100000 in
set_option maxHeartbeats 4000000 in
theorem ct_X0_init (l : Launch) (g : GG) (S : Sto) (a : Nat) (y : Int) (o : Nat) (b : Nat) (x : Int) (m : Nat) (ha : At0 S a 1) (hb : At0 S b 2) (hm2 : sI S b 2 = (m : Int)) (hm : m < 1048576) (ho : o < 40) (hx : inR x ∧ inR y) : MetS l g yX0_init cX0_init 5 (none) 3 1 0 [.ref a, .int (iI y), .int (iI (o : Int)), .ref b, .int (iI x)] S (P_X0_init S a y o b x m) := by
  refine MetS.of (own := RX0) (lv := [(0, .ref a), (1, .int (iI y)), (2, .int (iI (o : Int))), (3, .ref b), (4, .int (iI x))]) (by decide) rfl (Nat.le_of_ble_eq_true rfl) rfl ?_
  intro pX eX sX mX argsX belowX methX cX C hin
  refine KRg (fun hR => ?_)
  obtain ⟨⟨hx1, hx2⟩, ⟨hy1, hy2⟩⟩ := hx
  have hba : b ≠ a := kind_ne hb ha (by decide)
  have hcb := cntb_le m 20
  refine KAload_n C dX0_init_0 rfl 0 rfl ?_
  refine KObjInit C u_ml_RX0_3 dX0_init_1 ⟨Nat.le_of_ble_eq_true rfl, Nat.le_of_ble_eq_true rfl⟩ ?_
  refine KAload_n C dX0_init_4 rfl 0 rfl ?_
  refine KIconst C dX0_init_5 ?_
  refine KNewaI C 0 (by omega) (by omega) u_ac_97 ⟨by show _ + 1 ≤ 1; omega, by show _ + _ ≤ 0; omega⟩ dX0_init_6 (fun a6 ha6 => ?_)
  have ha0 := ha
  have hb0 := hb
  have ha : At0 (nw S a6 20 0) a 1 := (Ext.nw ha6 20 0).gro.at ha0
  have hb : At0 (nw S a6 20 0) b 2 := (Ext.nw ha6 20 0).gro.at hb0
  have hb6 : sI (nw S a6 20 0) b 2 = (m : Int) := (congrFun (nw_Ine (show b ≠ a6 from fun e9 => ha6 (e9 ▸ hb0.1))) 2).trans hm2
  refine KPutR (S := nw S a6 20 0) (ty := (.array .int)) C ul_X0 rfl (by decide) 5 5 rfl (by decide) rfl u_fl_RX0_9 tyX0 tyX0_ok nmX0 ha (by decide +kernel) rfl rfl rfl dX0_init_8 (fun _ h => h) ?_
  refine KAload_n C dX0_init_11 rfl 0 rfl ?_
  refine KIload_n C dX0_init_12 rfl 1 rfl ?_
  refine KPutIF (S := uP (nw S a6 20 0) a 5 (some a6)) (ty := .int) (v := y) C ul_X0 rfl (by decide) 0 0 rfl (by decide) rfl u_fl_RX0_15 tyX0 tyX0_ok nmX0 ha ⟨by omega, by omega⟩ (by decide +kernel) rfl rfl rfl hin rfl dX0_init_13 (fun _ h => h) ?_
  refine KAload_n C dX0_init_16 rfl 0 rfl ?_
  refine KLconst (v := lI 1) C dX0_init_17 (by decide) ?_
  refine KIload_n C dX0_init_18 rfl 2 rfl ?_
  refine KLshl (v := lI ((2 ^ o : Nat) : Int)) C dX0_init_19 (lb_shl ho) ?_
  refine KPutJ (S := uI (uP (nw S a6 20 0) a 5 (some a6)) a 0 y) (ty := .long) C ul_X0 rfl (by decide) 1 1 rfl (by decide) rfl u_fl_RX0_19 tyX0 tyX0_ok nmX0 ha (by decide +kernel) rfl rfl rfl dX0_init_20 (fun _ h => h) ?_
  refine KAload_n C dX0_init_23 rfl 0 rfl ?_
  refine KAload_n C dX0_init_24 rfl 3 rfl ?_
  refine KGetIN (S := uJ (uI (uP (nw S a6 20 0) a 5 (some a6)) a 0 y) a 1 ((2 ^ o : Nat) : Int)) C ul_X1 rfl (by decide) 2 2 rfl (by decide) rfl n_fn_RX0_23 hb (v := (m : Int)) ((up2_ne _ _ _ _ hba).trans hb6) dX0_init_25 (fun _ h => h) ?_
  refine KPutI (S := uJ (uI (uP (nw S a6 20 0) a 5 (some a6)) a 0 y) a 1 ((2 ^ o : Nat) : Int)) (ty := .int) (v := (m : Int)) C ul_X0 rfl (by decide) 2 2 rfl (by decide) rfl u_fl_RX0_28 tyX0 tyX0_ok nmX0 ha ⟨by omega, by omega⟩ (by decide +kernel) rfl rfl rfl dX0_init_28 (fun _ h => h) ?_
  refine KAload_n C dX0_init_31 rfl 0 rfl ?_
  refine KAload_n C dX0_init_32 rfl 3 rfl ?_
  refine KCallV (As := []) (b := b) (st := [.ref a]) C (ct_X1_countLines l g (uI (uJ (uI (uP (nw S a6 20 0) a 5 (some a6)) a 0 y) a 1 ((2 ^ o : Nat) : Int)) a 2 (m : Int)) b hb m ((up2_ne _ _ _ _ hba).trans ((up2_ne _ _ _ _ hba).trans hb6)) hm) u_ml_RX0_29 u_im_yX1_countLines u_se_yX1_countLines u_in_RX1 u_co_yX1_countLines hd_yX1_countLines hb (by decide) rfl rfl ⟨Nat.le_of_ble_eq_true rfl, Nat.le_of_ble_eq_true rfl⟩ ⟨Nat.le_of_ble_eq_true rfl, Nat.le_of_ble_eq_true rfl⟩ (Nat.le_of_ble_eq_true rfl) dX0_init_33 rfl (fun v33 u33 hp33 => ?_)
  obtain ⟨rfl, rfl⟩ := hp33
  refine KSt (st2 := [.int (iI ((cntb m 20 : Nat) : Int)), .ref a]) rfl ?_
  refine KRg (fun hR => ?_)
  refine KPutI (S := uI (uJ (uI (uP (nw S a6 20 0) a 5 (some a6)) a 0 y) a 1 ((2 ^ o : Nat) : Int)) a 2 (m : Int)) (ty := .int) (v := ((cntb m 20 : Nat) : Int)) C ul_X0 rfl (by decide) 3 3 rfl (by decide) rfl u_fl_RX0_33 tyX0 tyX0_ok nmX0 ha ⟨by omega, by omega⟩ (by decide +kernel) rfl rfl rfl dX0_init_36 (fun _ h => h) ?_
  refine KAload_n C dX0_init_39 rfl 0 rfl ?_
  refine KIload C dX0_init_40 4 rfl ?_
  refine KPutI (S := uI (uI (uJ (uI (uP (nw S a6 20 0) a 5 (some a6)) a 0 y) a 1 ((2 ^ o : Nat) : Int)) a 2 (m : Int)) a 3 ((cntb m 20 : Nat) : Int)) (ty := .int) (v := x) C ul_X0 rfl (by decide) 4 4 rfl (by decide) rfl u_fl_RX0_36 tyX0 tyX0_ok nmX0 ha ⟨by omega, by omega⟩ (by decide +kernel) rfl rfl rfl dX0_init_42 (fun _ h => h) ?_
  refine KVret C rfl (by
    exact ⟨rfl, a6, ha6, rfl⟩) (by decide) (by decide) dX0_init_45
