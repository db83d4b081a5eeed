/-! ===== the law, from its entry ===== -/
def So : Sto := ([], fun _ => 0, fun _ => 0, fun _ _ => 0, fun _ _ => none, fun _ _ => 0)
theorem Ext.tr {S u v : Sto} (h : Ext S u) (h2 : Ext u v) : Ext S v := ExA.ext fun b => (h.exA b).trans (h2.exA b)
section
variable {pX : Program} {l : Launch} {eX : Env} {sX : State} {mX : MethodId} {argsX : Array Value} {belowX : List Frame} {methX : Method} {cX : Code} {QX : State → Prop} {g : GG} {cells slots b0 : Nat} {S : Sto} {q : Nat → Nat}
set_option maxRecDepth 100000 in
set_option maxHeartbeats 4000000 in
theorem sg_pre (hnt : l.stackTraces = false) (C : Cx pX l sX mX argsX methX cX cL_law 22 RL ret g) (hnc : Ncs sX) (L : Nat) (xs : Nat → Int32) (hX : va_X b0 L xs sX sX.heap) (hb : b0 < gB g) (hL : L ≤ 260) (kk : ∀ (q : Nat → Nat) (U : Sto) (x y d : Int) (R2 : Int → Int), ((1 ≤ x ∧ x ≤ 6) ∧ (1 ≤ y ∧ y ≤ 20) ∧ 1 ≤ d ∧ d ≤ 9) → LI U q (gT g) (zz x y d) (zz x y d) R2 → Wk pX l eX room_1 sX mX argsX belowX methX cX QX g 22 73 6730 148 [(0, .ref b0), (1, .ref (q 80)), (3, .ref (q 0)), (4, .ref (q 81)), (5, .ref (q 82)), (6, .ref (q 83)), (7, .ref (q 84)), (8, .ref (q 85)), (9, .ref (q 86)), (10, .ref (q 87)), (11, .ref (q 88)), (12, .int (iI 1))] [] U) : Wk pX l eX room_1 sX mX argsX belowX methX cX QX g 22 0 0 0 [(0, .ref b0)] [] So := by
  refine KRg (fun hR => ?_)
  refine KBipush C dL_law_0 (by decide) ?_
  refine KNewaI C 8 (by omega) (by omega) u_ac_97 ⟨by show _ + 1 ≤ 600128; omega, by show _ + _ ≤ 7301064; omega⟩ dL_law_2 (fun a2 ha2 => ?_)
  refine KAstore_n (lv' := [(1, .ref a2), (0, .ref b0)]) C dL_law_4 rfl (by decide) rfl ?_
  refine KAload_n C dL_law_5 rfl 1 rfl ?_
  refine KIconst C dL_law_6 ?_
  refine KCell C hX hb hL 0 rfl (by omega) ⟨by show 1 ≤ 600128; omega, by show 8 ≤ 7301064; omega⟩ (Nat.le_of_ble_eq_true rfl) dL_law_7 (fun e7 => ?_)
  refine KIstore_n (lv' := [(2, .int (iI e7)), (1, .ref a2), (0, .ref b0)]) C dL_law_10 rfl (by decide) rfl ?_
  refine KAload_n C dL_law_11 rfl 1 rfl ?_
  refine KIconst C dL_law_12 ?_
  refine KBipush C dL_law_13 (by decide) ?_
  refine KIast (S := nw So a2 20 8) C 8 (nw_at (kd := 20) (n := 8)) (nw_ln (kd := 20) (n := 8)) ⟨by omega, by omega⟩ (by omega) ⟨by omega, by omega⟩ dL_law_15 ?_
  refine KAload_n C dL_law_16 rfl 1 rfl ?_
  refine KIconst C dL_law_17 ?_
  refine KIconst C dL_law_18 ?_
  refine KIload_n C dL_law_19 rfl 0 rfl ?_
  refine KBipush C dL_law_20 (by decide) ?_
  refine KCallS (As := [.int (iI e7), .int (iI 6)]) (st := [.int (iI 1), .int (iI 5), .ref a2]) C (ct_L_low l g (uI (nw So a2 20 8) a2 0 6) e7 6 (by omega)) u_ml_RL_125 u_st_yL_low u_in_RL u_co_yL_low hd_yL_low ⟨Nat.le_of_ble_eq_true rfl, Nat.le_of_ble_eq_true rfl⟩ ⟨Nat.le_of_ble_eq_true rfl, Nat.le_of_ble_eq_true rfl⟩ (Nat.le_of_ble_eq_true rfl) dL_law_22 rfl (fun v22 u22 hp22 => ?_)
  obtain ⟨rfl, rfl⟩ := hp22
  refine KSt (st2 := [.int (iI ((lowN e7 6 : Nat) : Int)), .int (iI 1), .int (iI 5), .ref a2]) rfl ?_
  obtain ⟨r22, hrd22⟩ : ∃ n9 : Nat, n9 = lowN e7 6 := ⟨_, rfl⟩
  have hr22 := lowN_lt (x := e7) (n := 6) (by omega)
  rw [← hrd22] at hr22
  refine KTop (congrArg iI (show ((lowN e7 6 : Nat) : Int) = (r22 : Int) from (by rw [hrd22]))) ?_
  refine KRg (fun hR => ?_)
  refine KIadd C dL_law_25 ?_
  refine KIast (S := uI (nw So a2 20 8) a2 0 6) C 8 (nw_at (kd := 20) (n := 8)) (nw_ln (kd := 20) (n := 8)) ⟨by omega, by omega⟩ (by omega) ⟨by omega, by omega⟩ dL_law_26 ?_
  refine KAload_n C dL_law_27 rfl 1 rfl ?_
  refine KBipush C dL_law_28 (by decide) ?_
  refine KIconst C dL_law_30 ?_
  refine KIload_n C dL_law_31 rfl 0 rfl ?_
  refine KIconst C dL_law_32 ?_
  refine KIshr (v := iI ((iI e7 >>> (iI 3 &&& 31)).toInt)) C dL_law_33 (iI_of _).symm ?_
  refine KBipush C dL_law_34 (by decide) ?_
  refine KCallS (As := [.int (iI ((iI e7 >>> (iI 3 &&& 31)).toInt)), .int (iI 20)]) (st := [.int (iI 1), .int (iI 6), .ref a2]) C (ct_L_low l g (uI (uI (nw So a2 20 8) a2 0 6) a2 5 (1 + (r22 : Int))) ((iI e7 >>> (iI 3 &&& 31)).toInt) 20 (by omega)) u_ml_RL_125 u_st_yL_low u_in_RL u_co_yL_low hd_yL_low ⟨Nat.le_of_ble_eq_true rfl, Nat.le_of_ble_eq_true rfl⟩ ⟨Nat.le_of_ble_eq_true rfl, Nat.le_of_ble_eq_true rfl⟩ (Nat.le_of_ble_eq_true rfl) dL_law_36 rfl (fun v36 u36 hp36 => ?_)
  obtain ⟨rfl, rfl⟩ := hp36
  refine KSt (st2 := [.int (iI ((lowN ((iI e7 >>> (iI 3 &&& 31)).toInt) 20 : Nat) : Int)), .int (iI 1), .int (iI 6), .ref a2]) rfl ?_
  obtain ⟨r36, hrd36⟩ : ∃ n9 : Nat, n9 = lowN ((iI e7 >>> (iI 3 &&& 31)).toInt) 20 := ⟨_, rfl⟩
  have hr36 := lowN_lt (x := ((iI e7 >>> (iI 3 &&& 31)).toInt)) (n := 20) (by omega)
  rw [← hrd36] at hr36
  refine KTop (congrArg iI (show ((lowN ((iI e7 >>> (iI 3 &&& 31)).toInt) 20 : Nat) : Int) = (r36 : Int) from (by rw [hrd36]))) ?_
  refine KRg (fun hR => ?_)
  refine KIadd C dL_law_39 ?_
  refine KIast (S := uI (uI (nw So a2 20 8) a2 0 6) a2 5 (1 + (r22 : Int))) C 8 (nw_at (kd := 20) (n := 8)) (nw_ln (kd := 20) (n := 8)) ⟨by omega, by omega⟩ (by omega) ⟨by omega, by omega⟩ dL_law_40 ?_
  refine KAload_n C dL_law_41 rfl 1 rfl ?_
  refine KBipush C dL_law_42 (by decide) ?_
  refine KIconst C dL_law_44 ?_
  refine KIload_n C dL_law_45 rfl 0 rfl ?_
  refine KBipush C dL_law_46 (by decide) ?_
  refine KIshr (v := iI ((iI e7 >>> (iI 8 &&& 31)).toInt)) C dL_law_48 (iI_of _).symm ?_
  refine KBipush C dL_law_49 (by decide) ?_
  refine KCallS (As := [.int (iI ((iI e7 >>> (iI 8 &&& 31)).toInt)), .int (iI 9)]) (st := [.int (iI 1), .int (iI 7), .ref a2]) C (ct_L_low l g (uI (uI (uI (nw So a2 20 8) a2 0 6) a2 5 (1 + (r22 : Int))) a2 6 (1 + (r36 : Int))) ((iI e7 >>> (iI 8 &&& 31)).toInt) 9 (by omega)) u_ml_RL_125 u_st_yL_low u_in_RL u_co_yL_low hd_yL_low ⟨Nat.le_of_ble_eq_true rfl, Nat.le_of_ble_eq_true rfl⟩ ⟨Nat.le_of_ble_eq_true rfl, Nat.le_of_ble_eq_true rfl⟩ (Nat.le_of_ble_eq_true rfl) dL_law_51 rfl (fun v51 u51 hp51 => ?_)
  obtain ⟨rfl, rfl⟩ := hp51
  refine KSt (st2 := [.int (iI ((lowN ((iI e7 >>> (iI 8 &&& 31)).toInt) 9 : Nat) : Int)), .int (iI 1), .int (iI 7), .ref a2]) rfl ?_
  obtain ⟨r51, hrd51⟩ : ∃ n9 : Nat, n9 = lowN ((iI e7 >>> (iI 8 &&& 31)).toInt) 9 := ⟨_, rfl⟩
  have hr51 := lowN_lt (x := ((iI e7 >>> (iI 8 &&& 31)).toInt)) (n := 9) (by omega)
  rw [← hrd51] at hr51
  refine KTop (congrArg iI (show ((lowN ((iI e7 >>> (iI 8 &&& 31)).toInt) 9 : Nat) : Int) = (r51 : Int) from (by rw [hrd51]))) ?_
  refine KRg (fun hR => ?_)
  refine KIadd C dL_law_54 ?_
  refine KIast (S := uI (uI (uI (nw So a2 20 8) a2 0 6) a2 5 (1 + (r22 : Int))) a2 6 (1 + (r36 : Int))) C 8 (nw_at (kd := 20) (n := 8)) (nw_ln (kd := 20) (n := 8)) ⟨by omega, by omega⟩ (by omega) ⟨by omega, by omega⟩ dL_law_55 ?_
  obtain ⟨T1, hT1⟩ : ∃ Tz, Tz = (uI (uI (uI (uI (nw So a2 20 8) a2 0 6) a2 5 (1 + (r22 : Int))) a2 6 (1 + (r36 : Int))) a2 7 (1 + (r51 : Int))) := ⟨_, rfl⟩
  have hat2 : At0 T1 a2 20 := by rw [hT1]; exact nw_at (S := So) (a := a2) (kd := 20) (n := 8)
  have hln2 : sN T1 a2 = 8 := by rw [hT1]; exact nw_ln (S := So) (a := a2) (kd := 20) (n := 8)
  have hr2 : sI T1 a2 0 = 6 ∧ sI T1 a2 1 = 0 ∧ sI T1 a2 2 = 0 ∧ sI T1 a2 3 = 0 ∧ sI T1 a2 4 = 0 ∧ sI T1 a2 5 = 1 + (r22 : Int) ∧ sI T1 a2 6 = 1 + (r36 : Int) ∧ sI T1 a2 7 = 1 + (r51 : Int) := by rw [hT1]; exact ⟨((up2_nk _ _ _ _ (by decide)).trans ((up2_nk _ _ _ _ (by decide)).trans ((up2_nk _ _ _ _ (by decide)).trans (up2_same _ _ _ _)))), ((up2_nk _ _ _ _ (by decide)).trans ((up2_nk _ _ _ _ (by decide)).trans ((up2_nk _ _ _ _ (by decide)).trans ((up2_nk _ _ _ _ (by decide)).trans (nw_I (S := So) (a := a2) (kd := 20) (n := 8) 1))))), ((up2_nk _ _ _ _ (by decide)).trans ((up2_nk _ _ _ _ (by decide)).trans ((up2_nk _ _ _ _ (by decide)).trans ((up2_nk _ _ _ _ (by decide)).trans (nw_I (S := So) (a := a2) (kd := 20) (n := 8) 2))))), ((up2_nk _ _ _ _ (by decide)).trans ((up2_nk _ _ _ _ (by decide)).trans ((up2_nk _ _ _ _ (by decide)).trans ((up2_nk _ _ _ _ (by decide)).trans (nw_I (S := So) (a := a2) (kd := 20) (n := 8) 3))))), ((up2_nk _ _ _ _ (by decide)).trans ((up2_nk _ _ _ _ (by decide)).trans ((up2_nk _ _ _ _ (by decide)).trans ((up2_nk _ _ _ _ (by decide)).trans (nw_I (S := So) (a := a2) (kd := 20) (n := 8) 4))))), ((up2_nk _ _ _ _ (by decide)).trans ((up2_nk _ _ _ _ (by decide)).trans (up2_same _ _ _ _))), ((up2_nk _ _ _ _ (by decide)).trans (up2_same _ _ _ _)), (up2_same _ _ _ _)⟩
  have hg2 : Gro So T1 := by rw [hT1]; exact (Ext.nw ha2 20 8).gro.trans (Gro.same rfl rfl rfl)
  have hf2 : Frs So T1 [a2] := by rw [hT1]; exact (Frs.nw ha2 20 8).mono (Gro.same rfl rfl rfl)
  refine KSto (S2 := T1) hT1.symm ?_
  refine KNew C ul_X5 rfl (by decide) tyX5 tyX5_ok u_cl_RL_11 u_is_RX5 u_in_RX5 nf_X5 ⟨by show _ + 1 ≤ 600128; omega, by show _ + 7 ≤ 7301064; omega⟩ dL_law_56 (fun a56 ha56 => ?_)
  have hE56 := Ext.nw ha56 6 0
  refine KDup C dL_law_59 rfl ?_
  refine KAload_n C dL_law_60 rfl 1 rfl ?_
  refine KIconst C dL_law_61 ?_
  refine KIald (S := nw T1 a56 6 0)  (v := 1 + (r22 : Int)) C 8 (hE56.gro.at hat2) (hE56.gro.ln hat2 hln2) ⟨by omega, by omega⟩ (by omega) ((congrFun (hE56 a2 hat2.1).2.2.2.1 _).trans hr2.2.2.2.2.2.1) dL_law_62 ?_
  refine KAload_n C dL_law_63 rfl 1 rfl ?_
  refine KBipush C dL_law_64 (by decide) ?_
  refine KIald (S := nw T1 a56 6 0)  (v := 1 + (r36 : Int)) C 8 (hE56.gro.at hat2) (hE56.gro.ln hat2 hln2) ⟨by omega, by omega⟩ (by omega) ((congrFun (hE56 a2 hat2.1).2.2.2.1 _).trans hr2.2.2.2.2.2.2.1) dL_law_66 ?_
  refine KAload_n C dL_law_67 rfl 1 rfl ?_
  refine KBipush C dL_law_68 (by decide) ?_
  refine KIald (S := nw T1 a56 6 0)  (v := 1 + (r51 : Int)) C 8 (hE56.gro.at hat2) (hE56.gro.ln hat2 hln2) ⟨by omega, by omega⟩ (by omega) ((congrFun (hE56 a2 hat2.1).2.2.2.1 _).trans hr2.2.2.2.2.2.2.2) dL_law_70 ?_
  refine KCallI (As := [.int (iI (1 + (r22 : Int))), .int (iI (1 + (r36 : Int))), .int (iI (1 + (r51 : Int)))]) (b := a56) (st := [.ref a56]) C (ct_X5_init l g (nw T1 a56 6 0) a56 (1 + (r22 : Int)) (1 + (r36 : Int)) (1 + (r51 : Int)) (nw_at (S := T1) (a := a56) (kd := 6) (n := 0)) (fun k => nw_I (S := T1) (a := a56) (kd := 6) (n := 0) k) (⟨⟨by omega, by omega⟩, ⟨by omega, by omega⟩, ⟨by omega, by omega⟩⟩) (gT g) rfl) u_ml_RL_135 u_im_yX5_init u_in_RX5 u_co_yX5_init rfl hd_yX5_init.2 ⟨Nat.le_of_ble_eq_true rfl, Nat.le_of_ble_eq_true rfl⟩ ⟨Nat.le_of_ble_eq_true rfl, Nat.le_of_ble_eq_true rfl⟩ (Nat.le_of_ble_eq_true rfl) dL_law_71 rfl (fun v71 u71 hp71 => ?_)
  obtain ⟨rfl, aw, ee, ar, pp, wy, oo, rr, av, lb, sv, ss, bk, hW1, hR1, hV1, hL1, hpt1, hin1, hEx1, hFr1⟩ := hp71
  refine KSt (st2 := [.ref a56]) rfl ?_
  refine KRg (fun hR => ?_)
  rw [wth_id (x := 1 + (r22 : Int)) (m := 6) ⟨by omega, by omega⟩, wth_id (x := 1 + (r36 : Int)) (m := 20) ⟨by omega, by omega⟩, wth_id (x := 1 + (r51 : Int)) (m := 9) ⟨by omega, by omega⟩] at hW1
  refine KAstore_n (lv' := [(3, .ref a56), (2, .int (iI e7)), (1, .ref a2), (0, .ref b0)]) C dL_law_74 rfl (by decide) rfl ?_
  refine KBipush C dL_law_75 (by decide) ?_
  refine KNewaI C 20 (by omega) (by omega) u_ac_97 ⟨by show _ + 1 ≤ 600128; omega, by show _ + _ ≤ 7301064; omega⟩ dL_law_77 (fun a77 ha77 => ?_)
  obtain ⟨V77, hV77⟩ : ∃ Tz, Tz = (nw u71 a77 20 20) := ⟨_, rfl⟩
  have hx77 : Ext u71 V77 := by rw [hV77]; exact Ext.nw ha77 20 20
  have hat77 : At0 V77 a77 20 ∧ sN V77 a77 = 20 ∧ (sI V77 a77 = fun _ => 0) := by rw [hV77]; exact ⟨nw_at (S := u71) (a := a77) (kd := 20) (n := 20), nw_ln (S := u71) (a := a77) (kd := 20) (n := 20), funext fun j => nw_I (S := u71) (a := a77) (kd := 20) (n := 20) j⟩
  have hf77 : Frs u71 V77 [a77] := by rw [hV77]; exact Frs.nw ha77 20 20
  refine KSto (S2 := V77) hV77.symm ?_
  refine KAstore (lv' := [(4, .ref a77), (3, .ref a56), (2, .int (iI e7)), (1, .ref a2), (0, .ref b0)]) C dL_law_79 (by decide) rfl ?_
  refine KBipush C dL_law_81 (by decide) ?_
  refine KNewaI C 20 (by omega) (by omega) u_ac_97 ⟨by show _ + 1 ≤ 600128; omega, by show _ + _ ≤ 7301064; omega⟩ dL_law_83 (fun a83 ha83 => ?_)
  obtain ⟨V83, hV83⟩ : ∃ Tz, Tz = (nw V77 a83 20 20) := ⟨_, rfl⟩
  have hx83 : Ext V77 V83 := by rw [hV83]; exact Ext.nw ha83 20 20
  have hat83 : At0 V83 a83 20 ∧ sN V83 a83 = 20 ∧ (sI V83 a83 = fun _ => 0) := by rw [hV83]; exact ⟨nw_at (S := V77) (a := a83) (kd := 20) (n := 20), nw_ln (S := V77) (a := a83) (kd := 20) (n := 20), funext fun j => nw_I (S := V77) (a := a83) (kd := 20) (n := 20) j⟩
  have hf83 : Frs V77 V83 [a83] := by rw [hV83]; exact Frs.nw ha83 20 20
  refine KSto (S2 := V83) hV83.symm ?_
  refine KAstore (lv' := [(5, .ref a83), (4, .ref a77), (3, .ref a56), (2, .int (iI e7)), (1, .ref a2), (0, .ref b0)]) C dL_law_85 (by decide) rfl ?_
  refine KBipush C dL_law_87 (by decide) ?_
  refine KNewaI C 48 (by omega) (by omega) u_ac_97 ⟨by show _ + 1 ≤ 600128; omega, by show _ + _ ≤ 7301064; omega⟩ dL_law_89 (fun a89 ha89 => ?_)
  obtain ⟨V89, hV89⟩ : ∃ Tz, Tz = (nw V83 a89 20 48) := ⟨_, rfl⟩
  have hx89 : Ext V83 V89 := by rw [hV89]; exact Ext.nw ha89 20 48
  have hat89 : At0 V89 a89 20 ∧ sN V89 a89 = 48 ∧ (sI V89 a89 = fun _ => 0) := by rw [hV89]; exact ⟨nw_at (S := V83) (a := a89) (kd := 20) (n := 48), nw_ln (S := V83) (a := a89) (kd := 20) (n := 48), funext fun j => nw_I (S := V83) (a := a89) (kd := 20) (n := 48) j⟩
  have hf89 : Frs V83 V89 [a89] := by rw [hV89]; exact Frs.nw ha89 20 48
  refine KSto (S2 := V89) hV89.symm ?_
  refine KAstore (lv' := [(6, .ref a89), (5, .ref a83), (4, .ref a77), (3, .ref a56), (2, .int (iI e7)), (1, .ref a2), (0, .ref b0)]) C dL_law_91 (by decide) rfl ?_
  refine KBipush C dL_law_93 (by decide) ?_
  refine KNewaI C 60 (by omega) (by omega) u_ac_97 ⟨by show _ + 1 ≤ 600128; omega, by show _ + _ ≤ 7301064; omega⟩ dL_law_95 (fun a95 ha95 => ?_)
  obtain ⟨V95, hV95⟩ : ∃ Tz, Tz = (nw V89 a95 20 60) := ⟨_, rfl⟩
  have hx95 : Ext V89 V95 := by rw [hV95]; exact Ext.nw ha95 20 60
  have hat95 : At0 V95 a95 20 ∧ sN V95 a95 = 60 ∧ (sI V95 a95 = fun _ => 0) := by rw [hV95]; exact ⟨nw_at (S := V89) (a := a95) (kd := 20) (n := 60), nw_ln (S := V89) (a := a95) (kd := 20) (n := 60), funext fun j => nw_I (S := V89) (a := a95) (kd := 20) (n := 60) j⟩
  have hf95 : Frs V89 V95 [a95] := by rw [hV95]; exact Frs.nw ha95 20 60
  refine KSto (S2 := V95) hV95.symm ?_
  refine KAstore (lv' := [(7, .ref a95), (6, .ref a89), (5, .ref a83), (4, .ref a77), (3, .ref a56), (2, .int (iI e7)), (1, .ref a2), (0, .ref b0)]) C dL_law_97 (by decide) rfl ?_
  refine KBipush C dL_law_99 (by decide) ?_
  refine KNewaI C 60 (by omega) (by omega) u_ac_97 ⟨by show _ + 1 ≤ 600128; omega, by show _ + _ ≤ 7301064; omega⟩ dL_law_101 (fun a101 ha101 => ?_)
  obtain ⟨V101, hV101⟩ : ∃ Tz, Tz = (nw V95 a101 20 60) := ⟨_, rfl⟩
  have hx101 : Ext V95 V101 := by rw [hV101]; exact Ext.nw ha101 20 60
  have hat101 : At0 V101 a101 20 ∧ sN V101 a101 = 60 ∧ (sI V101 a101 = fun _ => 0) := by rw [hV101]; exact ⟨nw_at (S := V95) (a := a101) (kd := 20) (n := 60), nw_ln (S := V95) (a := a101) (kd := 20) (n := 60), funext fun j => nw_I (S := V95) (a := a101) (kd := 20) (n := 60) j⟩
  have hf101 : Frs V95 V101 [a101] := by rw [hV101]; exact Frs.nw ha101 20 60
  refine KSto (S2 := V101) hV101.symm ?_
  refine KAstore (lv' := [(8, .ref a101), (7, .ref a95), (6, .ref a89), (5, .ref a83), (4, .ref a77), (3, .ref a56), (2, .int (iI e7)), (1, .ref a2), (0, .ref b0)]) C dL_law_103 (by decide) rfl ?_
  refine KBipush C dL_law_105 (by decide) ?_
  refine KNewaI C 20 (by omega) (by omega) u_ac_97 ⟨by show _ + 1 ≤ 600128; omega, by show _ + _ ≤ 7301064; omega⟩ dL_law_107 (fun a107 ha107 => ?_)
  obtain ⟨V107, hV107⟩ : ∃ Tz, Tz = (nw V101 a107 20 20) := ⟨_, rfl⟩
  have hx107 : Ext V101 V107 := by rw [hV107]; exact Ext.nw ha107 20 20
  have hat107 : At0 V107 a107 20 ∧ sN V107 a107 = 20 ∧ (sI V107 a107 = fun _ => 0) := by rw [hV107]; exact ⟨nw_at (S := V101) (a := a107) (kd := 20) (n := 20), nw_ln (S := V101) (a := a107) (kd := 20) (n := 20), funext fun j => nw_I (S := V101) (a := a107) (kd := 20) (n := 20) j⟩
  have hf107 : Frs V101 V107 [a107] := by rw [hV107]; exact Frs.nw ha107 20 20
  refine KSto (S2 := V107) hV107.symm ?_
  refine KAstore (lv' := [(9, .ref a107), (8, .ref a101), (7, .ref a95), (6, .ref a89), (5, .ref a83), (4, .ref a77), (3, .ref a56), (2, .int (iI e7)), (1, .ref a2), (0, .ref b0)]) C dL_law_109 (by decide) rfl ?_
  refine KBipush C dL_law_111 (by decide) ?_
  refine KNewaI C 10 (by omega) (by omega) u_ac_97 ⟨by show _ + 1 ≤ 600128; omega, by show _ + _ ≤ 7301064; omega⟩ dL_law_113 (fun a113 ha113 => ?_)
  obtain ⟨V113, hV113⟩ : ∃ Tz, Tz = (nw V107 a113 20 10) := ⟨_, rfl⟩
  have hx113 : Ext V107 V113 := by rw [hV113]; exact Ext.nw ha113 20 10
  have hat113 : At0 V113 a113 20 ∧ sN V113 a113 = 10 ∧ (sI V113 a113 = fun _ => 0) := by rw [hV113]; exact ⟨nw_at (S := V107) (a := a113) (kd := 20) (n := 10), nw_ln (S := V107) (a := a113) (kd := 20) (n := 10), funext fun j => nw_I (S := V107) (a := a113) (kd := 20) (n := 10) j⟩
  have hf113 : Frs V107 V113 [a113] := by rw [hV113]; exact Frs.nw ha113 20 10
  refine KSto (S2 := V113) hV113.symm ?_
  refine KAstore (lv' := [(10, .ref a113), (9, .ref a107), (8, .ref a101), (7, .ref a95), (6, .ref a89), (5, .ref a83), (4, .ref a77), (3, .ref a56), (2, .int (iI e7)), (1, .ref a2), (0, .ref b0)]) C dL_law_115 (by decide) rfl ?_
  refine KBipush C dL_law_117 (by decide) ?_
  refine KNewaI C 9 (by omega) (by omega) u_ac_97 ⟨by show _ + 1 ≤ 600128; omega, by show _ + _ ≤ 7301064; omega⟩ dL_law_119 (fun a119 ha119 => ?_)
  obtain ⟨V119, hV119⟩ : ∃ Tz, Tz = (nw V113 a119 20 9) := ⟨_, rfl⟩
  have hx119 : Ext V113 V119 := by rw [hV119]; exact Ext.nw ha119 20 9
  have hat119 : At0 V119 a119 20 ∧ sN V119 a119 = 9 ∧ (sI V119 a119 = fun _ => 0) := by rw [hV119]; exact ⟨nw_at (S := V113) (a := a119) (kd := 20) (n := 9), nw_ln (S := V113) (a := a119) (kd := 20) (n := 9), funext fun j => nw_I (S := V113) (a := a119) (kd := 20) (n := 9) j⟩
  have hf119 : Frs V113 V119 [a119] := by rw [hV119]; exact Frs.nw ha119 20 9
  refine KSto (S2 := V119) hV119.symm ?_
  refine KAstore (lv' := [(11, .ref a119), (10, .ref a113), (9, .ref a107), (8, .ref a101), (7, .ref a95), (6, .ref a89), (5, .ref a83), (4, .ref a77), (3, .ref a56), (2, .int (iI e7)), (1, .ref a2), (0, .ref b0)]) C dL_law_121 (by decide) rfl ?_
  refine KLv (lv' := [(0, .ref b0), (1, .ref a2), (2, .int (iI e7)), (3, .ref a56), (4, .ref a77), (5, .ref a83), (6, .ref a89), (7, .ref a95), (8, .ref a101), (9, .ref a107), (10, .ref a113), (11, .ref a119)]) [11, 10, 9, 8, 7, 6, 5, 4, 3, 2, 1, 0] rfl ?_
  have E113 : Ext V113 V119 := hx119
  have E107 : Ext V107 V119 := hx113.tr E113
  have E101 : Ext V101 V119 := hx107.tr E107
  have E95 : Ext V95 V119 := hx101.tr E101
  have E89 : Ext V89 V119 := hx95.tr E95
  have E83 : Ext V83 V119 := hx89.tr E89
  have E77 : Ext V77 V119 := hx83.tr E83
  have EA : Ext u71 V119 := hx77.tr E77
  have F113 : Frs V107 V119 ([a113] ++ [a119]) := hf113.app hx113.gro E113.gro hf119
  have F107 : Frs V101 V119 ([a107] ++ ([a113] ++ [a119])) := hf107.app hx107.gro E107.gro F113
  have F101 : Frs V95 V119 ([a101] ++ ([a107] ++ ([a113] ++ [a119]))) := hf101.app hx101.gro E101.gro F107
  have F95 : Frs V89 V119 ([a95] ++ ([a101] ++ ([a107] ++ ([a113] ++ [a119])))) := hf95.app hx95.gro E95.gro F101
  have F89 : Frs V83 V119 ([a89] ++ ([a95] ++ ([a101] ++ ([a107] ++ ([a113] ++ [a119]))))) := hf89.app hx89.gro E89.gro F95
  have F83 : Frs V77 V119 ([a83] ++ ([a89] ++ ([a95] ++ ([a101] ++ ([a107] ++ ([a113] ++ [a119])))))) := hf83.app hx83.gro E83.gro F89
  have F77 : Frs u71 V119 ([a77] ++ ([a83] ++ ([a89] ++ ([a95] ++ ([a101] ++ ([a107] ++ ([a113] ++ [a119]))))))) := hf77.app hx77.gro E77.gro F83
  have h2n : At0 (nw T1 a56 6 0) a2 20 := hE56.gro.at hat2
  have hne2 : a2 ≠ a56 := fun e9 => ha56 (e9 ▸ hat2.1)
  have h2u : At0 u71 a2 20 := hEx1.1.at h2n
  have hA56 : At0 u71 a56 6 := hEx1.1.at (nw_at (S := T1) (a := a56) (kd := 6) (n := 0))
  have eA := EA a56 hA56.1
  have e2 : sI V119 a2 = sI T1 a2 := (EA a2 h2u.1).2.2.2.1.trans ((hEx1.2 a2 h2n.1 hne2).1.trans (hE56 a2 hat2.1).2.2.2.1)
  have FN := hf2.app hg2 (hE56.gro.trans (hEx1.1.trans EA.gro)) ((Frs.nw ha56 6 0).app hE56.gro (hEx1.1.trans EA.gro) (hFr1.app hEx1.1 EA.gro F77))
  obtain ⟨q, q0, ⟨q80, q81, q82, q83, q84, q85, q86, q87, q88⟩, hTop, hCR⟩ := sys_of (t := gT g) (EA.gro.at hA56) (EA.wh hW1) (EA.ro hR1) (EA.wv hV1) (EA.lsn hL1) (by rw [eA.2.2.2.2.1]; exact hpt1) (by rw [eA.2.2.2.1]; exact hin1) ⟨⟨EA.gro.at h2u, EA.gro.ln h2u (hEx1.1.ln h2n (hE56.gro.ln hat2 hln2))⟩, ⟨E77.gro.at hat77.1, E77.gro.ln hat77.1 hat77.2.1⟩, ⟨E83.gro.at hat83.1, E83.gro.ln hat83.1 hat83.2.1⟩, ⟨E89.gro.at hat89.1, E89.gro.ln hat89.1 hat89.2.1⟩, ⟨E95.gro.at hat95.1, E95.gro.ln hat95.1 hat95.2.1⟩, ⟨E101.gro.at hat101.1, E101.gro.ln hat101.1 hat101.2.1⟩, ⟨E107.gro.at hat107.1, E107.gro.ln hat107.1 hat107.2.1⟩, ⟨E113.gro.at hat113.1, E113.gro.ln hat113.1 hat113.2.1⟩, ⟨hat119.1, hat119.2.1⟩⟩ FN.1
  refine KLv (lv' := [(0, .ref b0), (1, .ref (q 80)), (2, .int (iI e7)), (3, .ref (q 0)), (4, .ref (q 81)), (5, .ref (q 82)), (6, .ref (q 83)), (7, .ref (q 84)), (8, .ref (q 85)), (9, .ref (q 86)), (10, .ref (q 87)), (11, .ref (q 88))]) [0, 1, 2, 3, 4, 5, 6, 7, 8, 9, 10, 11] ?_ ?_
  · show _ = ([(0, .ref b0), (1, .ref (q 80)), (2, .int (iI e7)), (3, .ref (q 0)), (4, .ref (q 81)), (5, .ref (q 82)), (6, .ref (q 83)), (7, .ref (q 84)), (8, .ref (q 85)), (9, .ref (q 86)), (10, .ref (q 87)), (11, .ref (q 88))] : List (Nat × Value))
    rw [q0, q80, q81, q82, q83, q84, q85, q86, q87, q88]
    rfl
  · refine sg_ini hnt C hnc ⟨by omega, by omega⟩ e7 (1 + (r22 : Int)) (1 + (r36 : Int)) (1 + (r51 : Int)) hTop hCR (by rw [q80, e2]; exact hr2) (fun i i1 i2 => ?_) (fun U R2 hI2 => kk q U (1 + (r22 : Int)) (1 + (r36 : Int)) (1 + (r51 : Int)) R2 ⟨⟨by omega, by omega⟩, ⟨by omega, by omega⟩, by omega, by omega⟩ hI2)
    rcases (show i = 81 ∨ i = 82 ∨ i = 83 ∨ i = 84 ∨ i = 85 by omega) with e9 | e9 | e9 | e9 | e9
    · rw [e9, q81]; exact (E77 a77 hat77.1.1).2.2.2.1.trans hat77.2.2
    · rw [e9, q82]; exact (E83 a83 hat83.1.1).2.2.2.1.trans hat83.2.2
    · rw [e9, q83]; exact (E89 a89 hat89.1.1).2.2.2.1.trans hat89.2.2
    · rw [e9, q84]; exact (E95 a95 hat95.1.1).2.2.2.1.trans hat95.2.2
    · rw [e9, q85]; exact (E101 a101 hat101.1.1).2.2.2.1.trans hat101.2.2
end
