/-! ===== the law, from its entry ===== -/
def So : Sto := ([], fun _ => 0, fun _ => 0, fun _ _ => 0, fun _ _ => none, fun _ _ => 0)
set_option maxRecDepth 100000 in
theorem whole_start {p : Program} {e : Env} {s : State} {m : MethodId} {below : List Frame} {meth : Method} {c : Code} (l : Launch) (hflags : l.flags = flags0) {b L : Nat} {xs : Nat → Int32} (hL : L ≤ 2051) (C0 : lw_At p s m meth c b L xs) : W p l e room_1 s m #[Value.ref b] below meth c s.heap [] 0 0 (lw_Z below #[Value.ref b] s) (entryFrame m ([Value.ref b] : List Value).toArray 9) := by
  obtain ⟨g, hgB, C, hnc, hX, hb⟩ := entry (l := l) C0
  have hnt : l.stackTraces = false := by
    unfold Launch.stackTraces
    rw [hflags]
    decide +kernel
  have hP : va_P (gD g) vwCl (pol (gC g) So) s.heap := fun k q h => by
    have h9 : ([] : va_W)[k]? = some q := h
    simp at h9
  have hD : va_D (ge (gB g)) (pol (gC g) So) := ⟨fun i j p q h => by
    have h9 : ([] : va_W)[i]? = some p := h
    simp at h9, fun k q h => by
    have h9 : ([] : va_W)[k]? = some q := h
    simp at h9⟩
  have hR : Rg So := fun a k => inR_0
  have hl := lv_entry [.ref b] (n := 9) (Nat.le_of_ble_eq_true rfl)
  rw [lg_entry_eq]
  have body : Wk p l e room_1 s m #[Value.ref b] below meth c (lw_Z below #[Value.ref b] s) g 9 0 0 0 [(0, .ref b)] [] So := by
    refine KNew C ul_X5 rfl (by decide) tyX5 tyX5_ok u_cl_RL_8 u_is_RX5 u_in_RX5 nf_X5 ⟨Nat.le_of_ble_eq_true rfl, Nat.le_of_ble_eq_true rfl⟩ dL_law_0 (fun a0 ha0 => ?_)
    refine KDup C dL_law_3 rfl ?_
    refine KAload_n C dL_law_4 rfl 0 rfl ?_
    refine KIconst C dL_law_5 ?_
    refine KCell C hX hb hL 0 rfl (by decide) ⟨by omega, by omega⟩ (Nat.le_of_ble_eq_true rfl) dL_law_6 ?_
    refine KAload_n C dL_law_9 rfl 0 rfl ?_
    refine KIconst C dL_law_10 ?_
    refine KCell C hX hb hL 1 rfl (by decide) ⟨by omega, by omega⟩ (Nat.le_of_ble_eq_true rfl) dL_law_11 ?_
    refine KAload_n C dL_law_14 rfl 0 rfl ?_
    refine KIconst C dL_law_15 ?_
    refine KCell C hX hb hL 2 rfl (by decide) ⟨by omega, by omega⟩ (Nat.le_of_ble_eq_true rfl) dL_law_16 ?_
    have at0 : At0 (nw So a0 6 0) a0 6 := nw_at (S := So) (a := a0) (kd := 6) (n := 0)
    refine KCallI (As := [.int (iI (cellOf L xs 0)), .int (iI (cellOf L xs 1)), .int (iI (cellOf L xs 2))]) (b := a0) (st := [.ref a0]) C (ct_X5_init l g (nw So a0 6 0) a0 (cellOf L xs 0) (cellOf L xs 1) (cellOf L xs 2) at0 (fun k => nw_I (S := So) (a := a0) (kd := 6) (n := 0) k) ⟨cellOf_r _ _ _, cellOf_r _ _ _, cellOf_r _ _ _⟩ (gT g) rfl) u_ml_RL_85 u_im_yX5_init u_in_RX5 u_co_yX5_init rfl hd_yX5_init.2 ⟨Nat.le_of_ble_eq_true rfl, Nat.le_of_ble_eq_true rfl⟩ ⟨Nat.le_of_ble_eq_true rfl, Nat.le_of_ble_eq_true rfl⟩ (Nat.le_of_ble_eq_true rfl) dL_law_19 rfl (fun v1 u1 hp1 => ?_)
    obtain ⟨rfl, aw, e9, ar, p9, wy, o, r, av, lb, sv, s9, bk, hW1, hR1, hV1, hL1, hpt, hin, hEx1, hFr1⟩ := hp1
    refine KSt (st2 := [.ref a0]) rfl ?_
    refine KAstore_n (lv' := [(1, .ref a0), (0, .ref b)]) C dL_law_22 rfl (by decide) rfl ?_
    refine KNew C ul_X6 rfl (by decide) tyX6 tyX6_ok u_cl_RL_88 u_is_RX6 u_in_RX6 nf_X6 ⟨Nat.le_of_ble_eq_true rfl, Nat.le_of_ble_eq_true rfl⟩ dL_law_23 (fun a1 ha1 => ?_)
    refine KDup C dL_law_26 rfl ?_
    refine KAload_n C dL_law_27 rfl 1 rfl ?_
    refine KIconst C dL_law_28 ?_
    refine KCell C hX hb hL 0 rfl (by decide) ⟨by omega, by omega⟩ (Nat.le_of_ble_eq_true rfl) dL_law_29 ?_
    refine KAload_n C dL_law_32 rfl 1 rfl ?_
    refine KIconst C dL_law_33 ?_
    refine KCell C hX hb hL 1 rfl (by decide) ⟨by omega, by omega⟩ (Nat.le_of_ble_eq_true rfl) dL_law_34 ?_
    refine KAload_n C dL_law_37 rfl 1 rfl ?_
    refine KIconst C dL_law_38 ?_
    refine KCell C hX hb hL 2 rfl (by decide) ⟨by omega, by omega⟩ (Nat.le_of_ble_eq_true rfl) dL_law_39 ?_
    have at1 : At0 (nw u1 a1 7 0) a1 7 := nw_at (S := u1) (a := a1) (kd := 7) (n := 0)
    refine KCallI (As := [.int (iI (cellOf L xs 0)), .int (iI (cellOf L xs 1)), .int (iI (cellOf L xs 2))]) (b := a1) (st := [.ref a1]) C (ct_X6_init l g (nw u1 a1 7 0) a1 (cellOf L xs 0) (cellOf L xs 1) (cellOf L xs 2) at1 (fun k => nw_I (S := u1) (a := a1) (kd := 7) (n := 0) k) (fun k => nw_J (S := u1) (a := a1) (kd := 7) (n := 0) k) ⟨cellOf_r _ _ _, cellOf_r _ _ _, cellOf_r _ _ _⟩) u_ml_RL_90 u_im_yX6_init u_in_RX6 u_co_yX6_init rfl hd_yX6_init.2 ⟨Nat.le_of_ble_eq_true rfl, Nat.le_of_ble_eq_true rfl⟩ ⟨Nat.le_of_ble_eq_true rfl, Nat.le_of_ble_eq_true rfl⟩ (Nat.le_of_ble_eq_true rfl) dL_law_42 rfl (fun v2 u2 hp2 => ?_)
    obtain ⟨rfl, mm, hMO, hEx2, hFr2⟩ := hp2
    refine KSt (st2 := [.ref a1]) rfl ?_
    refine KAstore_n (lv' := [(2, .ref a1), (1, .ref a0), (0, .ref b)]) C dL_law_45 rfl (by decide) rfl ?_
    refine KIconst C dL_law_46 ?_
    refine KNewaJ C 1 rfl (by decide) u_ac_1100 ⟨Nat.le_of_ble_eq_true rfl, Nat.le_of_ble_eq_true rfl⟩ dL_law_47 (fun a2 ha2 => ?_)
    refine KAstore_n (lv' := [(3, .ref a2), (2, .ref a1), (1, .ref a0), (0, .ref b)]) C dL_law_49 rfl (by decide) rfl ?_
    refine KIconst C dL_law_50 ?_
    refine KIstore (lv' := [(4, .int (iI 3)), (3, .ref a2), (2, .ref a1), (1, .ref a0), (0, .ref b)]) C dL_law_51 (by decide) rfl ?_
    have E1 : Ext So (nw So a0 6 0) := Ext.nw ha0 6 0
    have E2 : Ext u1 u2 := ExA.ext fun b9 => ((Ext.nw ha1 7 0).exA b9).new ha1 hEx2
    have E3 : Ext u2 (nw u2 a2 23 1) := Ext.nw ha2 23 1
    have E13 : Ext u1 (nw u2 a2 23 1) := ExA.ext fun b9 => (E2.exA b9).trans (E3.exA b9)
    have F0 : Frs So (nw So a0 6 0) [a0] := Frs.nw ha0 6 0
    have F2 : Frs u1 u2 ([a1] ++ rls 12 mm) := (Frs.nw ha1 7 0).app (Ext.nw ha1 7 0).gro hEx2.1 hFr2
    have F3 : Frs u2 (nw u2 a2 23 1) [a2] := Frs.nw ha2 23 1
    have FF := F0.app E1.gro (hEx1.1.trans (E2.gro.trans E3.gro)) ((hFr1.app hEx1.1 E2.gro F2).app (hEx1.1.trans E2.gro) E3.gro F3)
    have hA1 := hEx1.1.at at0
    have eA := E13 a0 hA1.1
    obtain ⟨q, q0, q80, q93, hTop, hCR, hsg, hCn⟩ := sys_of (E13.gro.at hA1) (E13.wh hW1) (E13.ro hR1) (E13.wv hV1) (E13.lsn hL1) (by rw [eA.2.2.2.2.1]; exact hpt) (by rw [eA.2.2.2.1]; exact hin) (E3.mo hMO) ⟨nw_at (S := u2) (a := a2) (kd := 23) (n := 1), nw_ln (S := u2) (a := a2) (kd := 23) (n := 1)⟩ FF.1
    refine KLv (lv' := LV b q (3 + 4 * 0)) [4, 3, 2, 1, 0] ?_ ?_
    · show _ = [(0, Value.ref b), (1, .ref (q 0)), (2, .ref (q 80)), (3, .ref (q 93)), (4, .int (iI ((3 + 4 * 0 : Nat) : Int)))]
      rw [q0, q80, q93]
      rfl
    · exact KWiden (by decide) (by decide) (law_loop hnt C hgB hnc hX hb hL q 514 0 _ _ (by omega) (by omega) ⟨hTop, hCR, hsg, hCn, wf_zz (wth_b (by decide)) (wth_b (by decide)) (wth_b (by decide))⟩)
  exact body _ _ _ hP hD va_S.rf hR hl
