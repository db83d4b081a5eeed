/-! ===== the law's cases ===== -/
section
variable {p : Program} {l : Launch} {e : Env} {s : State} {m : MethodId} {args : Array Value} {below : List Frame} {meth : Method} {c : Code} {Q : State → Prop} {g : GG} {cells slots b0 L i : Nat} {xs : Nat → Int32} {S : Sto} {q : Nat → Nat} {z : Sig}
theorem cs_stateOf (hnt : l.stackTraces = false) (C : Cx p l s m args meth c cL_law 9 RL ret g) (hnc : Ncs s) (hX : va_X b0 L xs s s.heap) (hb : b0 < gB g) (hL : L ≤ 2051) (hi : i + 3 < L) (hc : cells + 161 ≤ 601024 ∧ slots + 3006 ≤ 7293000) (h : Bth S q (gT g) z) (kk : Nxt p l e s m args below meth c Q g q b0 i cells slots) : Wk p l e room_1 s m args below meth c Q g 9 cells slots 633 (LV b0 q i) [] S := by
  obtain ⟨hT, hCR, hsg, hCn, hW⟩ := id h
  obtain ⟨⟨k9, r9, z9⟩, hA⟩ : ∃ A : Ans, A = oSt z (xs (i + 1)).toInt := ⟨_, rfl⟩
  have hW9 : Wf z9 := by have h9 := wf_oSt hW (xs (i + 1)).toInt; rw [← hA] at h9; exact h9
  refine KAload_n C dL_law_633 rfl 1 rfl ?_
  refine KAload_n C dL_law_634 rfl 0 rfl ?_
  refine KIload C dL_law_635 4 rfl ?_
  refine KIconst C dL_law_637 ?_
  refine KIadd C dL_law_638 ?_
  refine KSld C hX hb hL (i + 1) (by omega) (by omega) dL_law_639 ?_
  refine KAload_n C dL_law_640 rfl 3 rfl ?_
  refine KCallSH (As := [.ref (q 0), .int (iI (xs (i + 1)).toInt), .ref (q 93)]) (st := []) C hnc (ct_L_stateOf l g hnt S q (xs (i + 1)).toInt z hT hW hCR (inR_of _) (gT g) rfl) u_ml_RL_123 u_st_yL_stateOf u_in_RL u_cw_stateOf hd_yL_stateOf ⟨Nat.le_of_ble_eq_true rfl, Nat.le_of_ble_eq_true rfl⟩ ⟨by show cells + 1 ≤ 601024; omega, by show slots + 6 ≤ 7293000; omega⟩ (Nat.le_of_ble_eq_true rfl) dL_law_641 rfl (fun v1 u1 hp1 => ?_)
  rw [← hA] at hp1
  obtain ⟨rfl, hin, hcq, hj⟩ := hp1
  have hmid := h.mid hcq
  refine KSt (st2 := [.int (iI k9)]) rfl ?_
  refine KIstore (lv' := [(5, .int (iI k9)), (0, .ref b0), (1, .ref (q 0)), (2, .ref (q 80)), (3, .ref (q 93)), (4, .int (iI (i : Int)))]) C dL_law_644 (by decide) rfl ?_
  refine KAload_n C dL_law_646 rfl 3 rfl ?_
  refine KAload_n C dL_law_647 rfl 1 rfl ?_
  refine KIload C dL_law_648 5 rfl ?_
  refine KIconst C dL_law_650 ?_
  refine KIadd C dL_law_651 ?_
  refine KSld C hX hb hL (i + 1) (by omega) (by omega) dL_law_652 ?_
  refine KCallV (As := [.int (iI (xs (i + 1)).toInt)]) (b := q 80) (st := []) C (ct_X6_stateOf l g u1 q (xs (i + 1)).toInt hmid.1 (by rw [hmid.2.2.1]; exact hW) hmid.2.2.2.1 (inR_of _)) u_ml_RL_125 u_im_yX6_stateOf u_se_yX6_stateOf u_in_RX6 u_co_yX6_stateOf hd_yX6_stateOf (hmid.1.at0 80 7) (by decide) rfl rfl ⟨Nat.le_of_ble_eq_true rfl, Nat.le_of_ble_eq_true rfl⟩ ⟨by show cells + 1 + 0 ≤ 601024; omega, by show slots + 6 + 0 ≤ 7293000; omega⟩ (Nat.le_of_ble_eq_true rfl) dL_law_653 rfl (fun v2 u2 hp2 => ?_)
  obtain ⟨c2, r2, z2, e2, rfl, hmp⟩ := hp2
  rw [hmid.2.2.1, ← hA] at e2
  cases e2
  refine KSt (st2 := [.int (iI r9)]) rfl ?_
  refine KIstore (lv' := [(6, .int (iI r9)), (5, .int (iI k9)), (0, .ref b0), (1, .ref (q 0)), (2, .ref (q 80)), (3, .ref (q 93)), (4, .int (iI (i : Int)))]) C dL_law_656 (by decide) rfl ?_
  refine KAload_n C dL_law_658 rfl 4 rfl ?_
  refine KCallV (As := []) (b := q 80) (st := []) C (ct_X6_thrown l g u2 q (hmp.top hmid.1)) u_ml_RL_95 u_im_yX6_thrown u_se_yX6_thrown u_in_RX6 u_co_yX6_thrown hd_yX6_thrown ((hmp.top hmid.1).at0 80 7) (by decide) rfl rfl ⟨Nat.le_of_ble_eq_true rfl, Nat.le_of_ble_eq_true rfl⟩ ⟨by show cells + 1 + 0 + 0 ≤ 601024; omega, by show slots + 6 + 0 + 0 ≤ 7293000; omega⟩ (Nat.le_of_ble_eq_true rfl) dL_law_659 rfl (fun v3 u3 hp3 => ?_)
  obtain ⟨rfl, rfl⟩ := hp3
  refine KSt (st2 := [.int (iI k9)]) (by rw [hmp.2.2.2.2.2.2.1]; rfl) ?_
  refine KIload C dL_law_662 1 rfl ?_
  refine KIcmp_eq C dL_law_664 rfl hin hin (fun _ => ?_) (fun h9 => absurd rfl h9)
  refine KIload C dL_law_669 1 rfl ?_
  have hB := hmid.both hmp hW9
  refine KIf_ne C dL_law_671 rfl hin (fun _ => ?_) (fun h0 => ?_)
  · refine KGoto C dL_law_686 rfl ?_
    refine KLv [2, 3, 4, 5, 6] rfl ?_
    exact KWiden (by omega) (by omega) (kk u2 z9 hB)
  · refine KAload_n C dL_law_674 rfl 5 rfl ?_
    refine KIconst C dL_law_675 ?_
    refine KLald C 1 (hB.1.at0 93 23) (hB.1.ln0 93 1) ⟨by decide, by decide⟩ (by decide) ((hmid.out hmp).trans (hj h0)) dL_law_676 ?_
    refine KIload C dL_law_677 0 rfl ?_
    refine KTop (iI_of (iI r9)).symm ?_
    refine KI2l C dL_law_679 (inR_of _) ?_
    refine KLcmp C dL_law_680 ?_
    refine KTop (lg_cmp_rfl _) ?_
    refine KIf_eq C dL_law_681 rfl inR_0 (fun _ => ?_) (fun h9 => absurd rfl h9)
    refine KGoto C dL_law_686 rfl ?_
    refine KLv [2, 3, 4, 5, 6] rfl ?_
    exact KWiden (by omega) (by omega) (kk u2 z9 hB)
theorem cs_lengthAlone (hnt : l.stackTraces = false) (C : Cx p l s m args meth c cL_law 9 RL ret g) (hnc : Ncs s) (hX : va_X b0 L xs s s.heap) (hb : b0 < gB g) (hL : L ≤ 2051) (hi : i + 3 < L) (hc : cells + 161 ≤ 601024 ∧ slots + 3006 ≤ 7293000) (h : Bth S q (gT g) z) (kk : Nxt p l e s m args below meth c Q g q b0 i cells slots) : Wk p l e room_1 s m args below meth c Q g 9 cells slots 689 (LV b0 q i) [] S := by
  obtain ⟨hT, hCR, hsg, hCn, hW⟩ := id h
  obtain ⟨⟨k9, r9, z9⟩, hA⟩ : ∃ A : Ans, A = oLa z (xs (i + 1)).toInt := ⟨_, rfl⟩
  have hW9 : Wf z9 := by have h9 := wf_oLa hW (xs (i + 1)).toInt; rw [← hA] at h9; exact h9
  refine KAload_n C dL_law_689 rfl 1 rfl ?_
  refine KAload_n C dL_law_690 rfl 0 rfl ?_
  refine KIload C dL_law_691 4 rfl ?_
  refine KIconst C dL_law_693 ?_
  refine KIadd C dL_law_694 ?_
  refine KSld C hX hb hL (i + 1) (by omega) (by omega) dL_law_695 ?_
  refine KAload_n C dL_law_696 rfl 3 rfl ?_
  refine KCallSH (As := [.ref (q 0), .int (iI (xs (i + 1)).toInt), .ref (q 93)]) (st := []) C hnc (ct_L_lengthAlone l g hnt S q (xs (i + 1)).toInt z hT hW hCR (inR_of _) (gT g) rfl) u_ml_RL_126 u_st_yL_lengthAlone u_in_RL u_cw_lengthAlone hd_yL_lengthAlone ⟨Nat.le_of_ble_eq_true rfl, Nat.le_of_ble_eq_true rfl⟩ ⟨by show cells + 1 ≤ 601024; omega, by show slots + 6 ≤ 7293000; omega⟩ (Nat.le_of_ble_eq_true rfl) dL_law_697 rfl (fun v1 u1 hp1 => ?_)
  rw [← hA] at hp1
  obtain ⟨rfl, hin, hcq, hj⟩ := hp1
  have hmid := h.mid hcq
  refine KSt (st2 := [.int (iI k9)]) rfl ?_
  refine KIstore (lv' := [(5, .int (iI k9)), (0, .ref b0), (1, .ref (q 0)), (2, .ref (q 80)), (3, .ref (q 93)), (4, .int (iI (i : Int)))]) C dL_law_700 (by decide) rfl ?_
  refine KAload_n C dL_law_702 rfl 3 rfl ?_
  refine KAload_n C dL_law_703 rfl 1 rfl ?_
  refine KIload C dL_law_704 5 rfl ?_
  refine KIconst C dL_law_706 ?_
  refine KIadd C dL_law_707 ?_
  refine KSld C hX hb hL (i + 1) (by omega) (by omega) dL_law_708 ?_
  refine KCallV (As := [.int (iI (xs (i + 1)).toInt)]) (b := q 80) (st := []) C (ct_X6_lengthAlone l g u1 q (xs (i + 1)).toInt hmid.1 (by rw [hmid.2.2.1]; exact hW) hmid.2.2.2.1 (inR_of _)) u_ml_RL_128 u_im_yX6_lengthAlone u_se_yX6_lengthAlone u_in_RX6 u_co_yX6_lengthAlone hd_yX6_lengthAlone (hmid.1.at0 80 7) (by decide) rfl rfl ⟨Nat.le_of_ble_eq_true rfl, Nat.le_of_ble_eq_true rfl⟩ ⟨by show cells + 1 + 0 ≤ 601024; omega, by show slots + 6 + 0 ≤ 7293000; omega⟩ (Nat.le_of_ble_eq_true rfl) dL_law_709 rfl (fun v2 u2 hp2 => ?_)
  obtain ⟨c2, r2, z2, e2, rfl, hmp⟩ := hp2
  rw [hmid.2.2.1, ← hA] at e2
  cases e2
  refine KSt (st2 := [.int (iI r9)]) rfl ?_
  refine KIstore (lv' := [(6, .int (iI r9)), (5, .int (iI k9)), (0, .ref b0), (1, .ref (q 0)), (2, .ref (q 80)), (3, .ref (q 93)), (4, .int (iI (i : Int)))]) C dL_law_712 (by decide) rfl ?_
  refine KAload_n C dL_law_714 rfl 4 rfl ?_
  refine KCallV (As := []) (b := q 80) (st := []) C (ct_X6_thrown l g u2 q (hmp.top hmid.1)) u_ml_RL_95 u_im_yX6_thrown u_se_yX6_thrown u_in_RX6 u_co_yX6_thrown hd_yX6_thrown ((hmp.top hmid.1).at0 80 7) (by decide) rfl rfl ⟨Nat.le_of_ble_eq_true rfl, Nat.le_of_ble_eq_true rfl⟩ ⟨by show cells + 1 + 0 + 0 ≤ 601024; omega, by show slots + 6 + 0 + 0 ≤ 7293000; omega⟩ (Nat.le_of_ble_eq_true rfl) dL_law_715 rfl (fun v3 u3 hp3 => ?_)
  obtain ⟨rfl, rfl⟩ := hp3
  refine KSt (st2 := [.int (iI k9)]) (by rw [hmp.2.2.2.2.2.2.1]; rfl) ?_
  refine KIload C dL_law_718 1 rfl ?_
  refine KIcmp_eq C dL_law_720 rfl hin hin (fun _ => ?_) (fun h9 => absurd rfl h9)
  refine KIload C dL_law_725 1 rfl ?_
  have hB := hmid.both hmp hW9
  refine KIf_ne C dL_law_727 rfl hin (fun _ => ?_) (fun h0 => ?_)
  · refine KGoto C dL_law_742 rfl ?_
    refine KLv [2, 3, 4, 5, 6] rfl ?_
    exact KWiden (by omega) (by omega) (kk u2 z9 hB)
  · refine KAload_n C dL_law_730 rfl 5 rfl ?_
    refine KIconst C dL_law_731 ?_
    refine KLald C 1 (hB.1.at0 93 23) (hB.1.ln0 93 1) ⟨by decide, by decide⟩ (by decide) ((hmid.out hmp).trans (hj h0)) dL_law_732 ?_
    refine KIload C dL_law_733 0 rfl ?_
    refine KTop (iI_of (iI r9)).symm ?_
    refine KI2l C dL_law_735 (inR_of _) ?_
    refine KLcmp C dL_law_736 ?_
    refine KTop (lg_cmp_rfl _) ?_
    refine KIf_eq C dL_law_737 rfl inR_0 (fun _ => ?_) (fun h9 => absurd rfl h9)
    refine KGoto C dL_law_742 rfl ?_
    refine KLv [2, 3, 4, 5, 6] rfl ?_
    exact KWiden (by omega) (by omega) (kk u2 z9 hB)
theorem cs_setCapacity (hnt : l.stackTraces = false) (C : Cx p l s m args meth c cL_law 9 RL ret g) (hnc : Ncs s) (hX : va_X b0 L xs s s.heap) (hb : b0 < gB g) (hL : L ≤ 2051) (hi : i + 3 < L) (hc : cells + 161 ≤ 601024 ∧ slots + 3006 ≤ 7293000) (h : Bth S q (gT g) z) (kk : Nxt p l e s m args below meth c Q g q b0 i cells slots) : Wk p l e room_1 s m args below meth c Q g 9 cells slots 745 (LV b0 q i) [] S := by
  obtain ⟨hT, hCR, hsg, hCn, hW⟩ := id h
  obtain ⟨⟨k9, r9, z9⟩, hA⟩ : ∃ A : Ans, A = oCap z (xs (i + 1)).toInt := ⟨_, rfl⟩
  have hW9 : Wf z9 := by have h9 := wf_oCap hW (xs (i + 1)).toInt; rw [← hA] at h9; exact h9
  refine KAload_n C dL_law_745 rfl 1 rfl ?_
  refine KAload_n C dL_law_746 rfl 0 rfl ?_
  refine KIload C dL_law_747 4 rfl ?_
  refine KIconst C dL_law_749 ?_
  refine KIadd C dL_law_750 ?_
  refine KSld C hX hb hL (i + 1) (by omega) (by omega) dL_law_751 ?_
  refine KAload_n C dL_law_752 rfl 3 rfl ?_
  refine KCallSH (As := [.ref (q 0), .int (iI (xs (i + 1)).toInt), .ref (q 93)]) (st := []) C hnc (ct_L_setCapacity l g hnt S q (xs (i + 1)).toInt z hT hW hCR (inR_of _) (gT g) rfl) u_ml_RL_129 u_st_yL_setCapacity u_in_RL u_cw_setCapacity hd_yL_setCapacity ⟨Nat.le_of_ble_eq_true rfl, Nat.le_of_ble_eq_true rfl⟩ ⟨by show cells + 2 ≤ 601024; omega, by show slots + 12 ≤ 7293000; omega⟩ (Nat.le_of_ble_eq_true rfl) dL_law_753 rfl (fun v1 u1 hp1 => ?_)
  rw [← hA] at hp1
  obtain ⟨rfl, hin, hcq, hj⟩ := hp1
  have hmid := h.mid hcq
  refine KSt (st2 := [.int (iI k9)]) rfl ?_
  refine KIstore (lv' := [(5, .int (iI k9)), (0, .ref b0), (1, .ref (q 0)), (2, .ref (q 80)), (3, .ref (q 93)), (4, .int (iI (i : Int)))]) C dL_law_756 (by decide) rfl ?_
  refine KAload_n C dL_law_758 rfl 3 rfl ?_
  refine KAload_n C dL_law_759 rfl 1 rfl ?_
  refine KIload C dL_law_760 5 rfl ?_
  refine KIconst C dL_law_762 ?_
  refine KIadd C dL_law_763 ?_
  refine KSld C hX hb hL (i + 1) (by omega) (by omega) dL_law_764 ?_
  refine KCallV (As := [.int (iI (xs (i + 1)).toInt)]) (b := q 80) (st := []) C (ct_X6_setCapacity l g u1 q (xs (i + 1)).toInt hmid.1 (by rw [hmid.2.2.1]; exact hW) hmid.2.2.2.1 (inR_of _)) u_ml_RL_131 u_im_yX6_setCapacity u_se_yX6_setCapacity u_in_RX6 u_co_yX6_setCapacity hd_yX6_setCapacity (hmid.1.at0 80 7) (by decide) rfl rfl ⟨Nat.le_of_ble_eq_true rfl, Nat.le_of_ble_eq_true rfl⟩ ⟨by show cells + 2 + 0 ≤ 601024; omega, by show slots + 12 + 0 ≤ 7293000; omega⟩ (Nat.le_of_ble_eq_true rfl) dL_law_765 rfl (fun v2 u2 hp2 => ?_)
  obtain ⟨c2, r2, z2, e2, rfl, hmp⟩ := hp2
  rw [hmid.2.2.1, ← hA] at e2
  cases e2
  refine KSt (st2 := [.int (iI r9)]) rfl ?_
  refine KIstore (lv' := [(6, .int (iI r9)), (5, .int (iI k9)), (0, .ref b0), (1, .ref (q 0)), (2, .ref (q 80)), (3, .ref (q 93)), (4, .int (iI (i : Int)))]) C dL_law_768 (by decide) rfl ?_
  refine KAload_n C dL_law_770 rfl 4 rfl ?_
  refine KCallV (As := []) (b := q 80) (st := []) C (ct_X6_thrown l g u2 q (hmp.top hmid.1)) u_ml_RL_95 u_im_yX6_thrown u_se_yX6_thrown u_in_RX6 u_co_yX6_thrown hd_yX6_thrown ((hmp.top hmid.1).at0 80 7) (by decide) rfl rfl ⟨Nat.le_of_ble_eq_true rfl, Nat.le_of_ble_eq_true rfl⟩ ⟨by show cells + 2 + 0 + 0 ≤ 601024; omega, by show slots + 12 + 0 + 0 ≤ 7293000; omega⟩ (Nat.le_of_ble_eq_true rfl) dL_law_771 rfl (fun v3 u3 hp3 => ?_)
  obtain ⟨rfl, rfl⟩ := hp3
  refine KSt (st2 := [.int (iI k9)]) (by rw [hmp.2.2.2.2.2.2.1]; rfl) ?_
  refine KIload C dL_law_774 1 rfl ?_
  refine KIcmp_eq C dL_law_776 rfl hin hin (fun _ => ?_) (fun h9 => absurd rfl h9)
  refine KIload C dL_law_781 1 rfl ?_
  have hB := hmid.both hmp hW9
  refine KIf_ne C dL_law_783 rfl hin (fun _ => ?_) (fun h0 => ?_)
  · refine KGoto C dL_law_798 rfl ?_
    refine KLv [2, 3, 4, 5, 6] rfl ?_
    exact KWiden (by omega) (by omega) (kk u2 z9 hB)
  · refine KAload_n C dL_law_786 rfl 5 rfl ?_
    refine KIconst C dL_law_787 ?_
    refine KLald C 1 (hB.1.at0 93 23) (hB.1.ln0 93 1) ⟨by decide, by decide⟩ (by decide) ((hmid.out hmp).trans (hj h0)) dL_law_788 ?_
    refine KIload C dL_law_789 0 rfl ?_
    refine KTop (iI_of (iI r9)).symm ?_
    refine KI2l C dL_law_791 (inR_of _) ?_
    refine KLcmp C dL_law_792 ?_
    refine KTop (lg_cmp_rfl _) ?_
    refine KIf_eq C dL_law_793 rfl inR_0 (fun _ => ?_) (fun h9 => absurd rfl h9)
    refine KGoto C dL_law_798 rfl ?_
    refine KLv [2, 3, 4, 5, 6] rfl ?_
    exact KWiden (by omega) (by omega) (kk u2 z9 hB)
theorem cs_planWave (hnt : l.stackTraces = false) (C : Cx p l s m args meth c cL_law 9 RL ret g) (hnc : Ncs s) (hX : va_X b0 L xs s s.heap) (hb : b0 < gB g) (hL : L ≤ 2051) (hi : i + 3 < L) (hc : cells + 161 ≤ 601024 ∧ slots + 3006 ≤ 7293000) (h : Bth S q (gT g) z) (kk : Nxt p l e s m args below meth c Q g q b0 i cells slots) : Wk p l e room_1 s m args below meth c Q g 9 cells slots 801 (LV b0 q i) [] S := by
  obtain ⟨hT, hCR, hsg, hCn, hW⟩ := id h
  obtain ⟨⟨k9, r9, z9⟩, hA⟩ : ∃ A : Ans, A = oPw z (xs (i + 1)).toInt := ⟨_, rfl⟩
  have hW9 : Wf z9 := by have h9 := wf_oPw hW (xs (i + 1)).toInt; rw [← hA] at h9; exact h9
  refine KAload_n C dL_law_801 rfl 1 rfl ?_
  refine KAload_n C dL_law_802 rfl 0 rfl ?_
  refine KIload C dL_law_803 4 rfl ?_
  refine KIconst C dL_law_805 ?_
  refine KIadd C dL_law_806 ?_
  refine KSld C hX hb hL (i + 1) (by omega) (by omega) dL_law_807 ?_
  refine KAload_n C dL_law_808 rfl 3 rfl ?_
  refine KCallSH (As := [.ref (q 0), .int (iI (xs (i + 1)).toInt), .ref (q 93)]) (st := []) C hnc (ct_L_planWave l g hnt S q (xs (i + 1)).toInt z hT hW hCR (inR_of _) (gT g) rfl) u_ml_RL_132 u_st_yL_planWave u_in_RL u_cw_planWave hd_yL_planWave ⟨Nat.le_of_ble_eq_true rfl, Nat.le_of_ble_eq_true rfl⟩ ⟨by show cells + 161 ≤ 601024; omega, by show slots + 3006 ≤ 7293000; omega⟩ (Nat.le_of_ble_eq_true rfl) dL_law_809 rfl (fun v1 u1 hp1 => ?_)
  rw [← hA] at hp1
  obtain ⟨rfl, hin, hcq, hj⟩ := hp1
  have hmid := h.mid hcq
  refine KSt (st2 := [.int (iI k9)]) rfl ?_
  refine KIstore (lv' := [(5, .int (iI k9)), (0, .ref b0), (1, .ref (q 0)), (2, .ref (q 80)), (3, .ref (q 93)), (4, .int (iI (i : Int)))]) C dL_law_812 (by decide) rfl ?_
  refine KAload_n C dL_law_814 rfl 3 rfl ?_
  refine KAload_n C dL_law_815 rfl 1 rfl ?_
  refine KIload C dL_law_816 5 rfl ?_
  refine KIconst C dL_law_818 ?_
  refine KIadd C dL_law_819 ?_
  refine KSld C hX hb hL (i + 1) (by omega) (by omega) dL_law_820 ?_
  refine KCallV (As := [.int (iI (xs (i + 1)).toInt)]) (b := q 80) (st := []) C (ct_X6_planWave l g u1 q (xs (i + 1)).toInt hmid.1 (by rw [hmid.2.2.1]; exact hW) hmid.2.2.2.1 (inR_of _)) u_ml_RL_134 u_im_yX6_planWave u_se_yX6_planWave u_in_RX6 u_co_yX6_planWave hd_yX6_planWave (hmid.1.at0 80 7) (by decide) rfl rfl ⟨Nat.le_of_ble_eq_true rfl, Nat.le_of_ble_eq_true rfl⟩ ⟨by show cells + 161 + 0 ≤ 601024; omega, by show slots + 3006 + 0 ≤ 7293000; omega⟩ (Nat.le_of_ble_eq_true rfl) dL_law_821 rfl (fun v2 u2 hp2 => ?_)
  obtain ⟨c2, r2, z2, e2, rfl, hmp⟩ := hp2
  rw [hmid.2.2.1, ← hA] at e2
  cases e2
  refine KSt (st2 := [.int (iI r9)]) rfl ?_
  refine KIstore (lv' := [(6, .int (iI r9)), (5, .int (iI k9)), (0, .ref b0), (1, .ref (q 0)), (2, .ref (q 80)), (3, .ref (q 93)), (4, .int (iI (i : Int)))]) C dL_law_824 (by decide) rfl ?_
  refine KAload_n C dL_law_826 rfl 4 rfl ?_
  refine KCallV (As := []) (b := q 80) (st := []) C (ct_X6_thrown l g u2 q (hmp.top hmid.1)) u_ml_RL_95 u_im_yX6_thrown u_se_yX6_thrown u_in_RX6 u_co_yX6_thrown hd_yX6_thrown ((hmp.top hmid.1).at0 80 7) (by decide) rfl rfl ⟨Nat.le_of_ble_eq_true rfl, Nat.le_of_ble_eq_true rfl⟩ ⟨by show cells + 161 + 0 + 0 ≤ 601024; omega, by show slots + 3006 + 0 + 0 ≤ 7293000; omega⟩ (Nat.le_of_ble_eq_true rfl) dL_law_827 rfl (fun v3 u3 hp3 => ?_)
  obtain ⟨rfl, rfl⟩ := hp3
  refine KSt (st2 := [.int (iI k9)]) (by rw [hmp.2.2.2.2.2.2.1]; rfl) ?_
  refine KIload C dL_law_830 1 rfl ?_
  refine KIcmp_eq C dL_law_832 rfl hin hin (fun _ => ?_) (fun h9 => absurd rfl h9)
  refine KIload C dL_law_837 1 rfl ?_
  have hB := hmid.both hmp hW9
  refine KIf_ne C dL_law_839 rfl hin (fun _ => ?_) (fun h0 => ?_)
  · refine KGoto C dL_law_854 rfl ?_
    refine KLv [2, 3, 4, 5, 6] rfl ?_
    exact KWiden (by omega) (by omega) (kk u2 z9 hB)
  · refine KAload_n C dL_law_842 rfl 5 rfl ?_
    refine KIconst C dL_law_843 ?_
    refine KLald C 1 (hB.1.at0 93 23) (hB.1.ln0 93 1) ⟨by decide, by decide⟩ (by decide) ((hmid.out hmp).trans (hj h0)) dL_law_844 ?_
    refine KIload C dL_law_845 0 rfl ?_
    refine KTop (iI_of (iI r9)).symm ?_
    refine KI2l C dL_law_847 (inR_of _) ?_
    refine KLcmp C dL_law_848 ?_
    refine KTop (lg_cmp_rfl _) ?_
    refine KIf_eq C dL_law_849 rfl inR_0 (fun _ => ?_) (fun h9 => absurd rfl h9)
    refine KGoto C dL_law_854 rfl ?_
    refine KLv [2, 3, 4, 5, 6] rfl ?_
    exact KWiden (by omega) (by omega) (kk u2 z9 hB)
theorem cs_pick (hnt : l.stackTraces = false) (C : Cx p l s m args meth c cL_law 9 RL ret g) (hnc : Ncs s) (hX : va_X b0 L xs s s.heap) (hb : b0 < gB g) (hL : L ≤ 2051) (hi : i + 3 < L) (hc : cells + 161 ≤ 601024 ∧ slots + 3006 ≤ 7293000) (h : Bth S q (gT g) z) (kk : Nxt p l e s m args below meth c Q g q b0 i cells slots) : Wk p l e room_1 s m args below meth c Q g 9 cells slots 857 (LV b0 q i) [] S := by
  obtain ⟨hT, hCR, hsg, hCn, hW⟩ := id h
  obtain ⟨⟨k9, r9, z9⟩, hA⟩ : ∃ A : Ans, A = oPk z (xs (i + 1)).toInt := ⟨_, rfl⟩
  have hW9 : Wf z9 := by have h9 := wf_oPk hW (xs (i + 1)).toInt; rw [← hA] at h9; exact h9
  refine KAload_n C dL_law_857 rfl 1 rfl ?_
  refine KAload_n C dL_law_858 rfl 0 rfl ?_
  refine KIload C dL_law_859 4 rfl ?_
  refine KIconst C dL_law_861 ?_
  refine KIadd C dL_law_862 ?_
  refine KSld C hX hb hL (i + 1) (by omega) (by omega) dL_law_863 ?_
  refine KAload_n C dL_law_864 rfl 3 rfl ?_
  refine KCallSH (As := [.ref (q 0), .int (iI (xs (i + 1)).toInt), .ref (q 93)]) (st := []) C hnc (ct_L_pick l g hnt S q (xs (i + 1)).toInt z hT hW hCR (inR_of _) (gT g) rfl) u_ml_RL_135 u_st_yL_pick u_in_RL u_cw_pick hd_yL_pick ⟨Nat.le_of_ble_eq_true rfl, Nat.le_of_ble_eq_true rfl⟩ ⟨by show cells + 1 ≤ 601024; omega, by show slots + 6 ≤ 7293000; omega⟩ (Nat.le_of_ble_eq_true rfl) dL_law_865 rfl (fun v1 u1 hp1 => ?_)
  rw [← hA] at hp1
  obtain ⟨rfl, hin, hcq, hj⟩ := hp1
  have hmid := h.mid hcq
  refine KSt (st2 := [.int (iI k9)]) rfl ?_
  refine KIstore (lv' := [(5, .int (iI k9)), (0, .ref b0), (1, .ref (q 0)), (2, .ref (q 80)), (3, .ref (q 93)), (4, .int (iI (i : Int)))]) C dL_law_868 (by decide) rfl ?_
  refine KAload_n C dL_law_870 rfl 3 rfl ?_
  refine KAload_n C dL_law_871 rfl 1 rfl ?_
  refine KIload C dL_law_872 5 rfl ?_
  refine KIconst C dL_law_874 ?_
  refine KIadd C dL_law_875 ?_
  refine KSld C hX hb hL (i + 1) (by omega) (by omega) dL_law_876 ?_
  refine KCallV (As := [.int (iI (xs (i + 1)).toInt)]) (b := q 80) (st := []) C (ct_X6_pick l g u1 q (xs (i + 1)).toInt hmid.1 (by rw [hmid.2.2.1]; exact hW) hmid.2.2.2.1 (inR_of _)) u_ml_RL_137 u_im_yX6_pick u_se_yX6_pick u_in_RX6 u_co_yX6_pick hd_yX6_pick (hmid.1.at0 80 7) (by decide) rfl rfl ⟨Nat.le_of_ble_eq_true rfl, Nat.le_of_ble_eq_true rfl⟩ ⟨by show cells + 1 + 0 ≤ 601024; omega, by show slots + 6 + 0 ≤ 7293000; omega⟩ (Nat.le_of_ble_eq_true rfl) dL_law_877 rfl (fun v2 u2 hp2 => ?_)
  obtain ⟨c2, r2, z2, e2, rfl, hmp⟩ := hp2
  rw [hmid.2.2.1, ← hA] at e2
  cases e2
  refine KSt (st2 := [.int (iI r9)]) rfl ?_
  refine KIstore (lv' := [(6, .int (iI r9)), (5, .int (iI k9)), (0, .ref b0), (1, .ref (q 0)), (2, .ref (q 80)), (3, .ref (q 93)), (4, .int (iI (i : Int)))]) C dL_law_880 (by decide) rfl ?_
  refine KAload_n C dL_law_882 rfl 4 rfl ?_
  refine KCallV (As := []) (b := q 80) (st := []) C (ct_X6_thrown l g u2 q (hmp.top hmid.1)) u_ml_RL_95 u_im_yX6_thrown u_se_yX6_thrown u_in_RX6 u_co_yX6_thrown hd_yX6_thrown ((hmp.top hmid.1).at0 80 7) (by decide) rfl rfl ⟨Nat.le_of_ble_eq_true rfl, Nat.le_of_ble_eq_true rfl⟩ ⟨by show cells + 1 + 0 + 0 ≤ 601024; omega, by show slots + 6 + 0 + 0 ≤ 7293000; omega⟩ (Nat.le_of_ble_eq_true rfl) dL_law_883 rfl (fun v3 u3 hp3 => ?_)
  obtain ⟨rfl, rfl⟩ := hp3
  refine KSt (st2 := [.int (iI k9)]) (by rw [hmp.2.2.2.2.2.2.1]; rfl) ?_
  refine KIload C dL_law_886 1 rfl ?_
  refine KIcmp_eq C dL_law_888 rfl hin hin (fun _ => ?_) (fun h9 => absurd rfl h9)
  refine KIload C dL_law_893 1 rfl ?_
  have hB := hmid.both hmp hW9
  refine KIf_ne C dL_law_895 rfl hin (fun _ => ?_) (fun h0 => ?_)
  · refine KGoto C dL_law_910 rfl ?_
    refine KLv [2, 3, 4, 5, 6] rfl ?_
    exact KWiden (by omega) (by omega) (kk u2 z9 hB)
  · refine KAload_n C dL_law_898 rfl 5 rfl ?_
    refine KIconst C dL_law_899 ?_
    refine KLald C 1 (hB.1.at0 93 23) (hB.1.ln0 93 1) ⟨by decide, by decide⟩ (by decide) ((hmid.out hmp).trans (hj h0)) dL_law_900 ?_
    refine KIload C dL_law_901 0 rfl ?_
    refine KTop (iI_of (iI r9)).symm ?_
    refine KI2l C dL_law_903 (inR_of _) ?_
    refine KLcmp C dL_law_904 ?_
    refine KTop (lg_cmp_rfl _) ?_
    refine KIf_eq C dL_law_905 rfl inR_0 (fun _ => ?_) (fun h9 => absurd rfl h9)
    refine KGoto C dL_law_910 rfl ?_
    refine KLv [2, 3, 4, 5, 6] rfl ?_
    exact KWiden (by omega) (by omega) (kk u2 z9 hB)
theorem cs_batches (hnt : l.stackTraces = false) (C : Cx p l s m args meth c cL_law 9 RL ret g) (hnc : Ncs s) (hX : va_X b0 L xs s s.heap) (hb : b0 < gB g) (hL : L ≤ 2051) (hi : i + 3 < L) (hc : cells + 161 ≤ 601024 ∧ slots + 3006 ≤ 7293000) (h : Bth S q (gT g) z) (kk : Nxt p l e s m args below meth c Q g q b0 i cells slots) : Wk p l e room_1 s m args below meth c Q g 9 cells slots 913 (LV b0 q i) [] S := by
  obtain ⟨hT, ⟨w, hCw⟩, hsg, hCn, hW⟩ := id h
  have hmid : Mid S q (gT g) z z := h
  have hr : inR ((zb z : Int)) := by
    exact hW.rgs.2.1
  refine KAload_n C dL_law_913 rfl 1 rfl ?_
  refine KCallV (As := []) (b := q 0) (st := []) C (ct_X5_batches l g S q w z hT hCw) u_ml_RL_138 u_im_yX5_batches u_se_yX5_batches u_in_RX5 u_co_yX5_batches hd_yX5_batches (hT.at0 0 6) (by decide) rfl rfl ⟨Nat.le_of_ble_eq_true rfl, Nat.le_of_ble_eq_true rfl⟩ ⟨by show cells + 0 ≤ 601024; omega, by show slots + 0 ≤ 7293000; omega⟩ (Nat.le_of_ble_eq_true rfl) dL_law_914 rfl (fun v1 u1 hp1 => ?_)
  obtain ⟨rfl, rfl⟩ := hp1
  refine KSt (st2 := [.int (iI ((zb z : Int)))]) rfl ?_
  refine KAload_n C dL_law_917 rfl 2 rfl ?_
  refine KCallV (As := []) (b := q 80) (st := [.int (iI ((zb z : Int)))]) C (ct_X6_batches l g S q hT (by rw [hsg]; exact hW) hCn) u_ml_RL_141 u_im_yX6_batches u_se_yX6_batches u_in_RX6 u_co_yX6_batches hd_yX6_batches (hT.at0 80 7) (by decide) rfl rfl ⟨Nat.le_of_ble_eq_true rfl, Nat.le_of_ble_eq_true rfl⟩ ⟨by show cells + 0 + 0 ≤ 601024; omega, by show slots + 0 + 0 ≤ 7293000; omega⟩ (Nat.le_of_ble_eq_true rfl) dL_law_918 rfl (fun v2 u2 hp2 => ?_)
  obtain ⟨c2, r2, z2, e2, rfl, hmp⟩ := hp2
  rw [hsg] at e2
  unfold oBs at e2
  cases e2
  refine KSt (st2 := [.int (iI ((zb z : Int))), .int (iI ((zb z : Int)))]) rfl ?_
  refine KIcmp_eq C dL_law_921 rfl hr hr (fun _ => ?_) (fun h9 => absurd rfl h9)
  exact KWiden (by omega) (by omega) (kk u2 z (hmid.both hmp hW))
theorem cs_batchOf (hnt : l.stackTraces = false) (C : Cx p l s m args meth c cL_law 9 RL ret g) (hnc : Ncs s) (hX : va_X b0 L xs s s.heap) (hb : b0 < gB g) (hL : L ≤ 2051) (hi : i + 3 < L) (hc : cells + 161 ≤ 601024 ∧ slots + 3006 ≤ 7293000) (h : Bth S q (gT g) z) (kk : Nxt p l e s m args below meth c Q g q b0 i cells slots) : Wk p l e room_1 s m args below meth c Q g 9 cells slots 926 (LV b0 q i) [] S := by
  obtain ⟨hT, hCR, hsg, hCn, hW⟩ := id h
  obtain ⟨⟨k9, r9, z9⟩, hA⟩ : ∃ A : Ans, A = oBt z (xs (i + 1)).toInt := ⟨_, rfl⟩
  have hW9 : Wf z9 := by have h9 := wf_oBt hW (xs (i + 1)).toInt; rw [← hA] at h9; exact h9
  refine KAload_n C dL_law_926 rfl 1 rfl ?_
  refine KAload_n C dL_law_927 rfl 0 rfl ?_
  refine KIload C dL_law_928 4 rfl ?_
  refine KIconst C dL_law_930 ?_
  refine KIadd C dL_law_931 ?_
  refine KSld C hX hb hL (i + 1) (by omega) (by omega) dL_law_932 ?_
  refine KAload_n C dL_law_933 rfl 3 rfl ?_
  refine KCallSH (As := [.ref (q 0), .int (iI (xs (i + 1)).toInt), .ref (q 93)]) (st := []) C hnc (ct_L_batchOf l g hnt S q (xs (i + 1)).toInt z hT hW hCR (inR_of _) (gT g) rfl) u_ml_RL_142 u_st_yL_batchOf u_in_RL u_cw_batchOf hd_yL_batchOf ⟨Nat.le_of_ble_eq_true rfl, Nat.le_of_ble_eq_true rfl⟩ ⟨by show cells + 1 ≤ 601024; omega, by show slots + 6 ≤ 7293000; omega⟩ (Nat.le_of_ble_eq_true rfl) dL_law_934 rfl (fun v1 u1 hp1 => ?_)
  rw [← hA] at hp1
  obtain ⟨rfl, hin, hcq, hj⟩ := hp1
  have hmid := h.mid hcq
  refine KSt (st2 := [.int (iI k9)]) rfl ?_
  refine KIstore (lv' := [(5, .int (iI k9)), (0, .ref b0), (1, .ref (q 0)), (2, .ref (q 80)), (3, .ref (q 93)), (4, .int (iI (i : Int)))]) C dL_law_937 (by decide) rfl ?_
  refine KAload_n C dL_law_939 rfl 3 rfl ?_
  refine KAload_n C dL_law_940 rfl 1 rfl ?_
  refine KIload C dL_law_941 5 rfl ?_
  refine KIconst C dL_law_943 ?_
  refine KIadd C dL_law_944 ?_
  refine KSld C hX hb hL (i + 1) (by omega) (by omega) dL_law_945 ?_
  refine KCallV (As := [.int (iI (xs (i + 1)).toInt)]) (b := q 80) (st := []) C (ct_X6_batchOf l g u1 q (xs (i + 1)).toInt hmid.1 (by rw [hmid.2.2.1]; exact hW) hmid.2.2.2.1 (inR_of _)) u_ml_RL_144 u_im_yX6_batchOf u_se_yX6_batchOf u_in_RX6 u_co_yX6_batchOf hd_yX6_batchOf (hmid.1.at0 80 7) (by decide) rfl rfl ⟨Nat.le_of_ble_eq_true rfl, Nat.le_of_ble_eq_true rfl⟩ ⟨by show cells + 1 + 0 ≤ 601024; omega, by show slots + 6 + 0 ≤ 7293000; omega⟩ (Nat.le_of_ble_eq_true rfl) dL_law_946 rfl (fun v2 u2 hp2 => ?_)
  obtain ⟨c2, r2, z2, e2, rfl, hmp⟩ := hp2
  rw [hmid.2.2.1, ← hA] at e2
  cases e2
  refine KSt (st2 := [.int (iI r9)]) rfl ?_
  refine KIstore (lv' := [(6, .int (iI r9)), (5, .int (iI k9)), (0, .ref b0), (1, .ref (q 0)), (2, .ref (q 80)), (3, .ref (q 93)), (4, .int (iI (i : Int)))]) C dL_law_949 (by decide) rfl ?_
  refine KAload_n C dL_law_951 rfl 4 rfl ?_
  refine KCallV (As := []) (b := q 80) (st := []) C (ct_X6_thrown l g u2 q (hmp.top hmid.1)) u_ml_RL_95 u_im_yX6_thrown u_se_yX6_thrown u_in_RX6 u_co_yX6_thrown hd_yX6_thrown ((hmp.top hmid.1).at0 80 7) (by decide) rfl rfl ⟨Nat.le_of_ble_eq_true rfl, Nat.le_of_ble_eq_true rfl⟩ ⟨by show cells + 1 + 0 + 0 ≤ 601024; omega, by show slots + 6 + 0 + 0 ≤ 7293000; omega⟩ (Nat.le_of_ble_eq_true rfl) dL_law_952 rfl (fun v3 u3 hp3 => ?_)
  obtain ⟨rfl, rfl⟩ := hp3
  refine KSt (st2 := [.int (iI k9)]) (by rw [hmp.2.2.2.2.2.2.1]; rfl) ?_
  refine KIload C dL_law_955 1 rfl ?_
  refine KIcmp_eq C dL_law_957 rfl hin hin (fun _ => ?_) (fun h9 => absurd rfl h9)
  refine KIload C dL_law_962 1 rfl ?_
  have hB := hmid.both hmp hW9
  refine KIf_ne C dL_law_964 rfl hin (fun _ => ?_) (fun h0 => ?_)
  · refine KGoto C dL_law_979 rfl ?_
    refine KLv [2, 3, 4, 5, 6] rfl ?_
    exact KWiden (by omega) (by omega) (kk u2 z9 hB)
  · refine KAload_n C dL_law_967 rfl 5 rfl ?_
    refine KIconst C dL_law_968 ?_
    refine KLald C 1 (hB.1.at0 93 23) (hB.1.ln0 93 1) ⟨by decide, by decide⟩ (by decide) ((hmid.out hmp).trans (hj h0)) dL_law_969 ?_
    refine KIload C dL_law_970 0 rfl ?_
    refine KTop (iI_of (iI r9)).symm ?_
    refine KI2l C dL_law_972 (inR_of _) ?_
    refine KLcmp C dL_law_973 ?_
    refine KTop (lg_cmp_rfl _) ?_
    refine KIf_eq C dL_law_974 rfl inR_0 (fun _ => ?_) (fun h9 => absurd rfl h9)
    refine KGoto C dL_law_979 rfl ?_
    refine KLv [2, 3, 4, 5, 6] rfl ?_
    exact KWiden (by omega) (by omega) (kk u2 z9 hB)
theorem cs_linesOf (hnt : l.stackTraces = false) (C : Cx p l s m args meth c cL_law 9 RL ret g) (hnc : Ncs s) (hX : va_X b0 L xs s s.heap) (hb : b0 < gB g) (hL : L ≤ 2051) (hi : i + 3 < L) (hc : cells + 161 ≤ 601024 ∧ slots + 3006 ≤ 7293000) (h : Bth S q (gT g) z) (kk : Nxt p l e s m args below meth c Q g q b0 i cells slots) : Wk p l e room_1 s m args below meth c Q g 9 cells slots 982 (LV b0 q i) [] S := by
  obtain ⟨hT, hCR, hsg, hCn, hW⟩ := id h
  obtain ⟨⟨k9, r9, z9⟩, hA⟩ : ∃ A : Ans, A = oLn z (xs (i + 1)).toInt := ⟨_, rfl⟩
  have hW9 : Wf z9 := by have h9 := wf_oLn hW (xs (i + 1)).toInt; rw [← hA] at h9; exact h9
  refine KAload_n C dL_law_982 rfl 1 rfl ?_
  refine KAload_n C dL_law_983 rfl 0 rfl ?_
  refine KIload C dL_law_984 4 rfl ?_
  refine KIconst C dL_law_986 ?_
  refine KIadd C dL_law_987 ?_
  refine KSld C hX hb hL (i + 1) (by omega) (by omega) dL_law_988 ?_
  refine KAload_n C dL_law_989 rfl 3 rfl ?_
  refine KCallSH (As := [.ref (q 0), .int (iI (xs (i + 1)).toInt), .ref (q 93)]) (st := []) C hnc (ct_L_linesOf l g hnt S q (xs (i + 1)).toInt z hT hW hCR (inR_of _) (gT g) rfl) u_ml_RL_145 u_st_yL_linesOf u_in_RL u_cw_linesOf hd_yL_linesOf ⟨Nat.le_of_ble_eq_true rfl, Nat.le_of_ble_eq_true rfl⟩ ⟨by show cells + 1 ≤ 601024; omega, by show slots + 6 ≤ 7293000; omega⟩ (Nat.le_of_ble_eq_true rfl) dL_law_990 rfl (fun v1 u1 hp1 => ?_)
  rw [← hA] at hp1
  obtain ⟨rfl, hin, hcq, hj⟩ := hp1
  have hmid := h.mid hcq
  refine KSt (st2 := [.int (iI k9)]) rfl ?_
  refine KIstore (lv' := [(5, .int (iI k9)), (0, .ref b0), (1, .ref (q 0)), (2, .ref (q 80)), (3, .ref (q 93)), (4, .int (iI (i : Int)))]) C dL_law_993 (by decide) rfl ?_
  refine KAload_n C dL_law_995 rfl 3 rfl ?_
  refine KAload_n C dL_law_996 rfl 1 rfl ?_
  refine KIload C dL_law_997 5 rfl ?_
  refine KIconst C dL_law_999 ?_
  refine KIadd C dL_law_1000 ?_
  refine KSld C hX hb hL (i + 1) (by omega) (by omega) dL_law_1001 ?_
  refine KCallV (As := [.int (iI (xs (i + 1)).toInt)]) (b := q 80) (st := []) C (ct_X6_linesOf l g u1 q (xs (i + 1)).toInt hmid.1 (by rw [hmid.2.2.1]; exact hW) hmid.2.2.2.1 (inR_of _)) u_ml_RL_147 u_im_yX6_linesOf u_se_yX6_linesOf u_in_RX6 u_co_yX6_linesOf hd_yX6_linesOf (hmid.1.at0 80 7) (by decide) rfl rfl ⟨Nat.le_of_ble_eq_true rfl, Nat.le_of_ble_eq_true rfl⟩ ⟨by show cells + 1 + 0 ≤ 601024; omega, by show slots + 6 + 0 ≤ 7293000; omega⟩ (Nat.le_of_ble_eq_true rfl) dL_law_1002 rfl (fun v2 u2 hp2 => ?_)
  obtain ⟨c2, r2, z2, e2, rfl, hmp⟩ := hp2
  rw [hmid.2.2.1, ← hA] at e2
  cases e2
  refine KSt (st2 := [.int (iI r9)]) rfl ?_
  refine KIstore (lv' := [(6, .int (iI r9)), (5, .int (iI k9)), (0, .ref b0), (1, .ref (q 0)), (2, .ref (q 80)), (3, .ref (q 93)), (4, .int (iI (i : Int)))]) C dL_law_1005 (by decide) rfl ?_
  refine KAload_n C dL_law_1007 rfl 4 rfl ?_
  refine KCallV (As := []) (b := q 80) (st := []) C (ct_X6_thrown l g u2 q (hmp.top hmid.1)) u_ml_RL_95 u_im_yX6_thrown u_se_yX6_thrown u_in_RX6 u_co_yX6_thrown hd_yX6_thrown ((hmp.top hmid.1).at0 80 7) (by decide) rfl rfl ⟨Nat.le_of_ble_eq_true rfl, Nat.le_of_ble_eq_true rfl⟩ ⟨by show cells + 1 + 0 + 0 ≤ 601024; omega, by show slots + 6 + 0 + 0 ≤ 7293000; omega⟩ (Nat.le_of_ble_eq_true rfl) dL_law_1008 rfl (fun v3 u3 hp3 => ?_)
  obtain ⟨rfl, rfl⟩ := hp3
  refine KSt (st2 := [.int (iI k9)]) (by rw [hmp.2.2.2.2.2.2.1]; rfl) ?_
  refine KIload C dL_law_1011 1 rfl ?_
  refine KIcmp_eq C dL_law_1013 rfl hin hin (fun _ => ?_) (fun h9 => absurd rfl h9)
  refine KIload C dL_law_1018 1 rfl ?_
  have hB := hmid.both hmp hW9
  refine KIf_ne C dL_law_1020 rfl hin (fun _ => ?_) (fun h0 => ?_)
  · refine KGoto C dL_law_1035 rfl ?_
    refine KLv [2, 3, 4, 5, 6] rfl ?_
    exact KWiden (by omega) (by omega) (kk u2 z9 hB)
  · refine KAload_n C dL_law_1023 rfl 5 rfl ?_
    refine KIconst C dL_law_1024 ?_
    refine KLald C 1 (hB.1.at0 93 23) (hB.1.ln0 93 1) ⟨by decide, by decide⟩ (by decide) ((hmid.out hmp).trans (hj h0)) dL_law_1025 ?_
    refine KIload C dL_law_1026 0 rfl ?_
    refine KTop (iI_of (iI r9)).symm ?_
    refine KI2l C dL_law_1028 (inR_of _) ?_
    refine KLcmp C dL_law_1029 ?_
    refine KTop (lg_cmp_rfl _) ?_
    refine KIf_eq C dL_law_1030 rfl inR_0 (fun _ => ?_) (fun h9 => absurd rfl h9)
    refine KGoto C dL_law_1035 rfl ?_
    refine KLv [2, 3, 4, 5, 6] rfl ?_
    exact KWiden (by omega) (by omega) (kk u2 z9 hB)
end
