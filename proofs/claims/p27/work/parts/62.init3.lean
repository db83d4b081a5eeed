def P_X5_init (S : Sto) (a : Nat) (x : Int) (y : Int) (z9 : Int) (tt : Nat) : Option Value → Sto → Prop := fun v u => v = none ∧ MC S u tt a (wth x 6) (wth y 20) (wth z9 9)
set_option maxRecDepth 100000 in
set_option maxHeartbeats 4000000 in
theorem ct_X5_init (l : Launch) (g : GG) (S : Sto) (a : Nat) (x : Int) (y : Int) (z9 : Int) (ha : At0 S a 6) (hz : ∀ k, sI S a k = 0) (hx : inR x ∧ inR y ∧ inR z9) (tt : Nat) (htt : tt = gT g) : MetS l g yX5_init cX5_init 4 (none) 6 63 6468 [.ref a, .int (iI x), .int (iI y), .int (iI z9)] S (P_X5_init S a x y z9 tt) := by
  refine MetS.of (own := RX5) (lv := [(0, .ref a), (1, .int (iI x)), (2, .int (iI y)), (3, .int (iI z9))]) (by decide) rfl (Nat.le_of_ble_eq_true rfl) rfl ?_
  intro pX eX sX mX argsX belowX methX cX C hin
  refine KRg (fun hR => ?_)
  obtain ⟨⟨hx1, hx2⟩, ⟨hy1, hy2⟩, hv1, hv2⟩ := hx
  refine KAload_n C dX5_init_0 rfl 0 rfl ?_
  refine KObjInit C u_ml_RX5_1 dX5_init_1 ⟨Nat.le_of_ble_eq_true rfl, Nat.le_of_ble_eq_true rfl⟩ ?_
  refine KAload_n C dX5_init_4 rfl 0 rfl ?_
  refine KNew C ul_X3 rfl (by decide) tyX3 tyX3_ok u_cl_RX5_7 u_is_RX3 u_in_RX3 nf_X3 ⟨by show _ + 1 ≤ 63; omega, by show _ + 7 ≤ 6468; omega⟩ dX5_init_5 (fun a5 ha5 => ?_)
  have ha0 := ha
  have hx1 := Ext.nw ha5 4 0
  have hE1 := hx1.exA a
  have ha : At0 (nw S a5 4 0) a 6 := hE1.1.at ha0
  have hFr1 := Frs.nw ha5 4 0
  have hI1 : sI (nw S a5 4 0) a = sI S a := (hx1 a ha0.1).2.2.2.1
  have hw1 := wth_b (x := x) (m := 6) (by decide)
  have hw2 := wth_b (x := y) (m := 20) (by decide)
  have hw3 := wth_b (x := z9) (m := 9) (by decide)
  refine KDup C dX5_init_8 rfl ?_
  refine KIload_n C dX5_init_9 rfl 1 rfl ?_
  refine KBipush C dX5_init_10 (by decide) ?_
  refine KCallS (As := [.int (iI x), .int (iI 6)]) (st := [.ref a5, .ref a5, .ref a]) C (ct_X5_within l g (nw S a5 4 0) x 6 (⟨⟨by omega, by omega⟩, ⟨by omega, by omega⟩⟩)) u_ml_RX5_11 u_st_yX5_within u_in_RX5 u_co_yX5_within hd_yX5_within ⟨Nat.le_of_ble_eq_true rfl, Nat.le_of_ble_eq_true rfl⟩ ⟨Nat.le_of_ble_eq_true rfl, Nat.le_of_ble_eq_true rfl⟩ (Nat.le_of_ble_eq_true rfl) dX5_init_12 rfl (fun v12 u12 hp12 => ?_)
  obtain ⟨rfl, rfl⟩ := hp12
  refine KSt (st2 := [.int (iI (maxI 1 (minI x 6))), .ref a5, .ref a5, .ref a]) rfl ?_
  refine KRg (fun hR => ?_)
  refine KTop (congrArg iI (show maxI 1 (minI x 6) = wth x 6 from rfl)) ?_
  refine KIload_n C dX5_init_15 rfl 2 rfl ?_
  refine KBipush C dX5_init_16 (by decide) ?_
  refine KCallS (As := [.int (iI y), .int (iI 20)]) (st := [.int (iI (wth x 6)), .ref a5, .ref a5, .ref a]) C (ct_X5_within l g (nw S a5 4 0) y 20 (⟨⟨by omega, by omega⟩, ⟨by omega, by omega⟩⟩)) u_ml_RX5_11 u_st_yX5_within u_in_RX5 u_co_yX5_within hd_yX5_within ⟨Nat.le_of_ble_eq_true rfl, Nat.le_of_ble_eq_true rfl⟩ ⟨Nat.le_of_ble_eq_true rfl, Nat.le_of_ble_eq_true rfl⟩ (Nat.le_of_ble_eq_true rfl) dX5_init_18 rfl (fun v18 u18 hp18 => ?_)
  obtain ⟨rfl, rfl⟩ := hp18
  refine KSt (st2 := [.int (iI (maxI 1 (minI y 20))), .int (iI (wth x 6)), .ref a5, .ref a5, .ref a]) rfl ?_
  refine KRg (fun hR => ?_)
  refine KTop (congrArg iI (show maxI 1 (minI y 20) = wth y 20 from rfl)) ?_
  refine KIload_n C dX5_init_21 rfl 3 rfl ?_
  refine KBipush C dX5_init_22 (by decide) ?_
  refine KCallS (As := [.int (iI z9), .int (iI 9)]) (st := [.int (iI (wth y 20)), .int (iI (wth x 6)), .ref a5, .ref a5, .ref a]) C (ct_X5_within l g (nw S a5 4 0) z9 9 (⟨⟨by omega, by omega⟩, ⟨by omega, by omega⟩⟩)) u_ml_RX5_11 u_st_yX5_within u_in_RX5 u_co_yX5_within hd_yX5_within ⟨Nat.le_of_ble_eq_true rfl, Nat.le_of_ble_eq_true rfl⟩ ⟨Nat.le_of_ble_eq_true rfl, Nat.le_of_ble_eq_true rfl⟩ (Nat.le_of_ble_eq_true rfl) dX5_init_24 rfl (fun v24 u24 hp24 => ?_)
  obtain ⟨rfl, rfl⟩ := hp24
  refine KSt (st2 := [.int (iI (maxI 1 (minI z9 9))), .int (iI (wth y 20)), .int (iI (wth x 6)), .ref a5, .ref a5, .ref a]) rfl ?_
  refine KRg (fun hR => ?_)
  refine KTop (congrArg iI (show maxI 1 (minI z9 9) = wth z9 9 from rfl)) ?_
  refine KCallI (As := [.int (iI (wth x 6)), .int (iI (wth y 20)), .int (iI (wth z9 9))]) (b := a5) (st := [.ref a5, .ref a]) C (ct_X3_init l g (nw S a5 4 0) a5 (wth x 6) (wth y 20) (wth z9 9) (nw_at (kd := 4) (n := 0)) (⟨⟨by omega, by omega⟩, ⟨by omega, by omega⟩, ⟨by omega, by omega⟩⟩)) u_ml_RX5_15 u_im_yX3_init u_in_RX3 u_co_yX3_init rfl hd_yX3_init.2 ⟨Nat.le_of_ble_eq_true rfl, Nat.le_of_ble_eq_true rfl⟩ ⟨Nat.le_of_ble_eq_true rfl, Nat.le_of_ble_eq_true rfl⟩ (Nat.le_of_ble_eq_true rfl) dX5_init_27 rfl (fun v27 u27 hp27 => ?_)
  obtain ⟨rfl, e27, hWH27, hEx27, hFr27⟩ := hp27
  refine KSt (st2 := [.ref a5, .ref a]) rfl ?_
  refine KRg (fun hR => ?_)
  have hE2 := hE1.new ha5 hEx27
  have hFr2 := hFr1.app hE1.1 hEx27.1 hFr27
  have hI2 : sI u27 a = sI S a := (hEx27.k (nw_at (kd := 4) (n := 0)) ha (by decide)).1.trans hI1
  have ha := hE2.1.at ha0
  refine KPutRF (S := u27) (ty := (.object "Aislewright$Warehouse")) C ul_X5 rfl (by decide) 0 0 rfl (by decide) rfl u_fl_RX5_18 tyX5 tyX5_ok nmX5 ha (by decide +kernel) rfl rfl rfl hin rfl dX5_init_30 (fun _ h => h) ?_
  obtain ⟨T3, hT3⟩ : ∃ Tz, Tz = (uP u27 a 0 (some a5)) := ⟨_, rfl⟩
  have hE23 : ExA u27 T3 a := by rw [hT3]; exact exA_uP _ _ _ _
  have hE3 := hE2.trans hE23
  have hFr3 := hFr2.mono hE23.1
  have hI3 : sI T3 a = sI S a := by rw [hT3]; exact hI2
  have hW3 := hWH27.fr hE23 ha (by decide) (by decide)
  have hp0 : sP T3 a 0 = some a5 := by rw [hT3]; exact up2_same _ _ _ _
  have ha := hE3.1.at ha0
  refine KSto (S2 := T3) hT3.symm ?_
  refine KAload_n C dX5_init_33 rfl 0 rfl ?_
  refine KNew C ul_X2 rfl (by decide) tyX2 tyX2_ok u_cl_RX5_22 u_is_RX2 u_in_RX2 nf_X2 ⟨by show _ + 1 ≤ 63; omega, by show _ + 5 ≤ 6468; omega⟩ dX5_init_34 (fun a34 ha34 => ?_)
  have hx4 := Ext.nw ha34 3 0
  have hE34 := hx4.exA a
  have hE4 := hE3.trans hE34
  have hn34 : a34 ∉ sL S := fun h9 => ha34 (hE3.1 _ h9).1
  have hFr4 := hFr3.app hE3.1 hE34.1 (Frs.nw ha34 3 0)
  have hI4 : sI (nw T3 a34 3 0) a = sI S a := (hx4 a ha.1).2.2.2.1.trans hI3
  have hW4 := hW3.fr hE34 ha (by decide) (by decide)
  have hp4 : sP (nw T3 a34 3 0) a 0 = some a5 := (congrFun (hx4 a ha.1).2.2.2.2.1 0).trans hp0
  have ha3 := ha
  have ha : At0 (nw T3 a34 3 0) a 6 := hE34.1.at ha3
  refine KDup C dX5_init_37 rfl ?_
  refine KAload_n C dX5_init_38 rfl 0 rfl ?_
  refine KGetR (S := nw T3 a34 3 0) C ul_X5 rfl (by decide) 0 0 rfl (by decide) rfl u_fl_RX5_18 ha (b := a5) hp4 dX5_init_39 (fun _ h => h) ?_
  refine KCallI (As := [.ref a5]) (b := a34) (st := [.ref a34, .ref a]) C (ct_X2_init l g (nw T3 a34 3 0) a34 a5 (nw_at (kd := 3) (n := 0))) u_ml_RX5_24 u_im_yX2_init u_in_RX2 u_co_yX2_init rfl hd_yX2_init.2 ⟨Nat.le_of_ble_eq_true rfl, Nat.le_of_ble_eq_true rfl⟩ ⟨Nat.le_of_ble_eq_true rfl, Nat.le_of_ble_eq_true rfl⟩ (Nat.le_of_ble_eq_true rfl) dX5_init_42 rfl (fun v42 u42 hp42 => ?_)
  obtain ⟨rfl, p42, wy42, o42, r42, hRO42, hEx42, hFr42⟩ := hp42
  refine KSt (st2 := [.ref a34, .ref a]) rfl ?_
  refine KRg (fun hR => ?_)
  have hk42 := hEx42.k (nw_at (kd := 3) (n := 0)) ha (by decide)
  have hE5 := hE4.new hn34 hEx42
  have hFr5 := hFr4.app hE4.1 hEx42.1 hFr42
  have hI5 : sI u42 a = sI S a := hk42.1.trans hI4
  have hW5 := hW4.fr hEx42 (nw_at (kd := 3) (n := 0)) (by decide) (by decide)
  have hp5 : sP u42 a 0 = some a5 := (congrFun hk42.2.1 0).trans hp4
  have ha := hE5.1.at ha0
  refine KPutRF (S := u42) (ty := (.object "Aislewright$Router")) C ul_X5 rfl (by decide) 1 1 rfl (by decide) rfl u_fl_RX5_27 tyX5 tyX5_ok nmX5 ha (by decide +kernel) rfl rfl rfl hin rfl dX5_init_45 (fun _ h => h) ?_
  obtain ⟨T6, hT6⟩ : ∃ Tz, Tz = (uP u42 a 1 (some a34)) := ⟨_, rfl⟩
  have hE56 : ExA u42 T6 a := by rw [hT6]; exact exA_uP _ _ _ _
  have hE6 := hE5.trans hE56
  have hFr6 := hFr5.mono hE56.1
  have hI6 : sI T6 a = sI S a := by rw [hT6]; exact hI5
  have hW6 := hW5.fr hE56 ha (by decide) (by decide)
  have hR6 := hRO42.fr hE56 ha (by decide) (by decide) (by decide)
  have hp6 : sP T6 a 0 = some a5 ∧ sP T6 a 1 = some a34 := by rw [hT6]; exact ⟨(up2_nk _ _ _ _ (by decide)).trans hp5, up2_same _ _ _ _⟩
  have ha := hE6.1.at ha0
  refine KSto (S2 := T6) hT6.symm ?_
  refine KAload_n C dX5_init_48 rfl 0 rfl ?_
  refine KNew C ul_X4 rfl (by decide) tyX4 tyX4_ok u_cl_RX5_31 u_is_RX4 u_in_RX4 nf_X4 ⟨by show _ + 1 ≤ 63; omega, by show _ + 3 ≤ 6468; omega⟩ dX5_init_49 (fun a49 ha49 => ?_)
  have hx7 := Ext.nw ha49 5 0
  have hE67 := hx7.exA a
  have hE7 := hE6.trans hE67
  have hn49 : a49 ∉ sL S := fun h9 => ha49 (hE6.1 _ h9).1
  have hFr7 := hFr6.app hE6.1 hE67.1 (Frs.nw ha49 5 0)
  have hI7 : sI (nw T6 a49 5 0) a = sI S a := (hx7 a ha.1).2.2.2.1.trans hI6
  have hW7 := hW6.fr hE67 ha (by decide) (by decide)
  have hR7 := hR6.fr hE67 ha (by decide) (by decide) (by decide)
  have hp7 : sP (nw T6 a49 5 0) a = sP T6 a := (hx7 a ha.1).2.2.2.2.1
  have ha6 := ha
  have ha : At0 (nw T6 a49 5 0) a 6 := hE67.1.at ha6
  refine KDup C dX5_init_52 rfl ?_
  refine KAload_n C dX5_init_53 rfl 0 rfl ?_
  refine KGetR (S := nw T6 a49 5 0) C ul_X5 rfl (by decide) 1 1 rfl (by decide) rfl u_fl_RX5_27 ha (b := a34) ((congrFun hp7 1).trans hp6.2) dX5_init_54 (fun _ h => h) ?_
  refine KCallI (As := [.ref a34]) (b := a49) (st := [.ref a49, .ref a]) C (ct_X4_init l g (nw T6 a49 5 0) a49 a34 (nw_at (kd := 5) (n := 0)) (gT g) rfl) u_ml_RX5_33 u_im_yX4_init u_in_RX4 u_co_yX4_init rfl hd_yX4_init.2 ⟨Nat.le_of_ble_eq_true rfl, Nat.le_of_ble_eq_true rfl⟩ ⟨Nat.le_of_ble_eq_true rfl, Nat.le_of_ble_eq_true rfl⟩ (Nat.le_of_ble_eq_true rfl) dX5_init_57 rfl (fun v57 u57 hp57 => ?_)
  obtain ⟨rfl, lb57, sv57, s57, hWV57, hEx57, hFr57⟩ := hp57
  refine KSt (st2 := [.ref a49, .ref a]) rfl ?_
  refine KRg (fun hR => ?_)
  have hk57 := hEx57.k (nw_at (kd := 5) (n := 0)) ha (by decide)
  have hE8 := hE7.new hn49 hEx57
  have hFr8 := hFr7.app hE7.1 hEx57.1 hFr57
  have hI8 : sI u57 a = sI S a := hk57.1.trans hI7
  have hW8 := hW7.fr hEx57 (nw_at (kd := 5) (n := 0)) (by decide) (by decide)
  have hR8 := hR7.fr hEx57 (nw_at (kd := 5) (n := 0)) (by decide) (by decide) (by decide)
  have hp8 : sP u57 a = sP T6 a := hk57.2.1.trans hp7
  have ha := hE8.1.at ha0
  refine KPutRF (S := u57) (ty := (.object "Aislewright$Wave")) C ul_X5 rfl (by decide) 2 2 rfl (by decide) rfl u_fl_RX5_36 tyX5 tyX5_ok nmX5 ha (by decide +kernel) rfl rfl rfl hin rfl dX5_init_60 (fun _ h => h) ?_
  obtain ⟨T9, hT9⟩ : ∃ Tz, Tz = (uP u57 a 2 (some a49)) := ⟨_, rfl⟩
  have hE89 : ExA u57 T9 a := by rw [hT9]; exact exA_uP _ _ _ _
  have hE9 := hE8.trans hE89
  have hFr9 := hFr8.mono hE89.1
  have hI9 : sI T9 a = sI S a := by rw [hT9]; exact hI8
  have hW9 := hW8.fr hE89 ha (by decide) (by decide)
  have hR9 := hR8.fr hE89 ha (by decide) (by decide) (by decide)
  have hV9 := hWV57.fr hE89 ha (by decide) (by decide) (by decide) (by decide)
  have hp9 : sP T9 a 0 = some a5 ∧ sP T9 a 1 = some a34 ∧ sP T9 a 2 = some a49 := by rw [hT9]; exact ⟨(up2_nk _ _ _ _ (by decide)).trans ((congrFun hp8 0).trans hp6.1), (up2_nk _ _ _ _ (by decide)).trans ((congrFun hp8 1).trans hp6.2), up2_same _ _ _ _⟩
  have ha := hE9.1.at ha0
  refine KSto (S2 := T9) hT9.symm ?_
  refine KAload_n C dX5_init_63 rfl 0 rfl ?_
  refine KNew C ul_Jx4a65c rfl (by decide) tyJx4a65c tyJx4a65c_ok u_cl_RX5_40 u_is_RJx4a65c u_in_RJx4a65c nf_Jx4a65c ⟨by show _ + 1 ≤ 63; omega, by show _ + 3 ≤ 6468; omega⟩ dX5_init_64 (fun a64 ha64 => ?_)
  have hx10 := Ext.nw ha64 0 0
  have hE910 := hx10.exA a
  have hn64 : a64 ∉ sL S := fun h9 => ha64 (hE9.1 _ h9).1
  have ha9 := ha
  have ha : At0 (nw T9 a64 0 0) a 6 := hE910.1.at ha9
  have hla : a ≠ a64 := fun e9 => ha64 (e9 ▸ ha9.1)
  refine KDup C dX5_init_67 rfl ?_
  refine KCallI (As := []) (b := a64) (st := [.ref a64, .ref a]) C (ct_Jx4a65c_init_da8c8 l g (nw T9 a64 0 0) a64 (nw_at (kd := 0) (n := 0)) (gT g) rfl) u_ml_RX5_42 u_im_yJx4a65c_init_da8c8 u_in_RJx4a65c u_co_yJx4a65c_init_da8c8 rfl hd_yJx4a65c_init_da8c8.2 ⟨Nat.le_of_ble_eq_true rfl, Nat.le_of_ble_eq_true rfl⟩ ⟨Nat.le_of_ble_eq_true rfl, Nat.le_of_ble_eq_true rfl⟩ (Nat.le_of_ble_eq_true rfl) dX5_init_68 rfl (fun v68 u68 hp68 => ?_)
  obtain ⟨rfl, rfl⟩ := hp68
  refine KSt (st2 := [.ref a64, .ref a]) rfl ?_
  refine KRg (fun hR => ?_)
  refine KPutRF (S := uP (uI (nw T9 a64 0 0) a64 0 0) a64 1 (some (gT g))) (ty := (.object "java/util/ArrayList")) C ul_X5 rfl (by decide) 3 3 rfl (by decide) rfl u_fl_RX5_43 tyX5 tyX5_ok nmX5 ha (by decide +kernel) rfl rfl rfl hin rfl dX5_init_71 (fun _ h => h) ?_
  refine KAload_n C dX5_init_74 rfl 0 rfl ?_
  refine KBipush C dX5_init_75 (by decide) ?_
  refine KPutI (S := uP (uP (uI (nw T9 a64 0 0) a64 0 0) a64 1 (some (gT g))) a 3 (some a64)) (ty := .int) (v := 6) C ul_X5 rfl (by decide) 4 4 rfl (by decide) rfl u_fl_RX5_47 tyX5 tyX5_ok nmX5 ha ⟨by omega, by omega⟩ (by decide +kernel) rfl rfl rfl dX5_init_77 (fun _ h => h) ?_
  obtain ⟨T12, hT12⟩ : ∃ Tz, Tz = (uI (uP (uP (uI (nw T9 a64 0 0) a64 0 0) a64 1 (some (gT g))) a 3 (some a64)) a 4 6) := ⟨_, rfl⟩
  have hE11 : ExA T9 T12 a := by rw [hT12]; exact ((((hE910).new ha64 ((exA_uI _ _ _ _).trans (exA_uP _ _ _ _))).trans (exA_uP _ _ _ _)).trans (exA_uI _ _ _ _))
  have hE12 := hE9.trans hE11
  have hFr12 := hFr9.app hE9.1 hE11.1 (show Frs T9 T12 [a64] by rw [hT12]; exact (Frs.nw ha64 0 0).mono (Gro.same rfl rfl rfl))
  have hW12 := hW9.fr hE11 ha9 (by decide) (by decide)
  have hR12 := hR9.fr hE11 ha9 (by decide) (by decide) (by decide)
  have hV12 := hV9.fr hE11 ha9 (by decide) (by decide) (by decide) (by decide)
  have hL12 : LSn T12 (gT g) a64 := by rw [hT12]; exact ⟨nw_at (S := T9) (a := a64) (kd := 0) (n := 0), (up2_ne _ _ _ _ hla.symm).trans (up2_same _ _ _ _), (up2_ne _ _ _ _ hla.symm).trans ((up2_nk _ _ _ _ (by decide)).trans (nw_I (S := T9) (a := a64) (kd := 0) (n := 0) 2))⟩
  have hpk : ∀ k : Int, k ≠ 3 → sP T12 a k = sP T9 a k := fun k h3 => by rw [hT12]; exact (up2_nk _ _ _ _ h3).trans ((up2_ne _ _ _ _ hla).trans (congrFun (nw_Pne (S := T9) (a := a64) (kd := 0) (n := 0) hla) k))
  have hp3 : sP T12 a 3 = some a64 := by rw [hT12]; exact up2_same _ _ _ _
  have hik : ∀ k : Int, k ≠ 4 → sI T12 a k = 0 := fun k h4 => by rw [hT12]; exact (up2_nk _ _ _ _ h4).trans ((up2_ne _ _ _ _ hla).trans ((congrFun (nw_Ine (S := T9) (a := a64) (kd := 0) (n := 0) hla) k).trans ((congrFun hI9 k).trans (hz k))))
  have hi4 : sI T12 a 4 = 6 := by rw [hT12]; exact up2_same _ _ _ _
  refine KSto (S2 := T12) hT12.symm ?_
  refine KVret C rfl (by
    refine ⟨rfl, ?_⟩
    rw [htt]
    exact ⟨a5, e27, a34, p42, wy42, o42, r42, a49, lb57, sv57, s57, a64, hW12, hR12, hV12, hL12, ⟨(hpk 0 (by decide)).trans hp9.1, (hpk 1 (by decide)).trans hp9.2.1, (hpk 2 (by decide)).trans hp9.2.2, hp3⟩, ⟨hi4, hik 5 (by decide), hik 6 (by decide)⟩, hE12, hFr12⟩) (by decide) (by decide) dX5_init_80
