def P_X6_line (S : Sto) (q : Nat → Nat) (a : Int) (p : Int) (y : Int) : Option Value → Sto → Prop := fun v u => ∃ c r z', oLin (sgM S q) a p y = (c, r, z') ∧ v = some (.int (iI r)) ∧ MP S q u c z'
set_option maxRecDepth 100000 in
set_option maxHeartbeats 4000000 in
theorem ct_X6_line (l : Launch) (g : GG) (S : Sto) (q : Nat → Nat) (a : Int) (p : Int) (y : Int) (hT : Top S q) (hW : Wf (sgM S q)) (hCn : Cn S q) (hia : inR a) (hip : inR p) (hiy : inR y) : MetS l g yX6_line cX6_line 4 (some FieldType.int) 3 0 0 [.ref (q 80), .int (iI a), .int (iI p), .int (iI y)] S (P_X6_line S q a p y) := by
  refine MetS.of (own := RX6) (lv := [(0, .ref (q 80)), (1, .int (iI a)), (2, .int (iI p)), (3, .int (iI y))]) (by decide) rfl (Nat.le_of_ble_eq_true rfl) rfl ?_
  intro pX eX sX mX argsX belowX methX cX C hin
  refine KRg (fun hR => ?_)
  obtain ⟨a1, a2⟩ := id hia
  obtain ⟨p1, p2⟩ := id hip
  obtain ⟨y1, y2⟩ := id hiy
  refine KAload_n C dX6_line_0 rfl 0 rfl ?_
  refine KIconst C dX6_line_1 ?_
  obtain ⟨T, hTT, hT9, hW, hCn, h00, hz, hM⟩ := MP.start hT hW hCn
  refine KPutI (ty := .int) (v := 0) C ul_X6 rfl (by decide) 0 0 rfl (by decide) rfl u_fl_RX6_59 tyX6 tyX6_ok nmX6 (hT.at0 80 7) ⟨by omega, by omega⟩ (by decide +kernel) rfl rfl rfl dX6_line_2 (fun _ h => h) ?_
  refine KSto (S2 := T) hTT.symm ?_
  have hT := hT9
  have hlift : ∀ v u, P_X6_line T q a p y v u → P_X6_line S q a p y v u := fun v u ⟨c, r, z', h1, h2, h3⟩ => ⟨c, r, z', hz ▸ h1, h2, hM.trans h3⟩
  refine KRg (fun hR => ?_)
  obtain ⟨hc6, hc13⟩ := id hCn
  have hCm : CfM T q := hW.cf
  obtain ⟨hA1, hA2, hN1, hN2, hG1, hG2⟩ := id hCm
  obtain ⟨ho40, hbo⟩ := hW.2.1
  have ezA : zA (sgM T q) = sI T (q 80) 1 := rfl
  have ezN : zN (sgM T q) = sI T (q 80) 2 := rfl
  refine KAload_n C dX6_line_5 rfl 0 rfl ?_
  refine KIload_n C dX6_line_6 rfl 1 rfl ?_
  refine KCallV (As := [.int (iI a)]) (b := q 80) (st := []) C (ct_X6_isOrder l g T q a hT (⟨by omega, by omega⟩) (by omega)) u_ml_RX6_108 u_im_yX6_isOrder u_se_yX6_isOrder u_in_RX6 u_co_yX6_isOrder hd_yX6_isOrder (hT.at0 80 7) (by decide) rfl rfl ⟨Nat.le_of_ble_eq_true rfl, Nat.le_of_ble_eq_true rfl⟩ ⟨Nat.le_of_ble_eq_true rfl, Nat.le_of_ble_eq_true rfl⟩ (Nat.le_of_ble_eq_true rfl) dX6_line_7 rfl (fun v7 u7 hp7 => ?_)
  obtain ⟨⟨b7, rfl⟩ | ⟨b7, rfl⟩, rfl⟩ := hp7
  · refine KSt (st2 := [.int (iI 1)]) rfl ?_
    obtain ⟨o, ho⟩ : ∃ o : Nat, a = (o : Int) := ⟨a.toNat, by omega⟩
    have eo : a.toNat = o := by omega
    have ez3 : zst (sgM T q) a = sI T (q 83) (o : Int) := by rw [ho]; rfl
    have ez5 : zmn (sgM T q) a = sI T (q 85) (o : Int) := by rw [ho]; rfl
    have ezC : zC (sgM T q) = sI T (q 80) 4 := rfl
    have hmo := (hW.wl.2 o (by omega)).1
    change 0 ≤ sI T (q 85) (o : Int) ∧ sI T (q 85) (o : Int) ≤ 5 at hmo
    refine KLvE (lv2 := [(0, .ref (q 80)), (1, .int (iI (o : Int))), (2, .int (iI p)), (3, .int (iI y))]) (congrArg (fun zz : Int => ([(0, .ref (q 80)), (1, .int (iI zz)), (2, .int (iI p)), (3, .int (iI y))] : List (Nat × Value))) (show (a : Int) = (o : Int) from ho)) ?_
    refine KIf_eq (tgt := 20) C dX6_line_10 (by decide) ⟨by omega, by omega⟩ (fun h => absurd h (by decide)) (fun _ => ?_)
    refine KIload_n C dX6_line_13 rfl 2 rfl ?_
    refine KCallS (As := [.int (iI p)]) (st := []) C (ct_X6_isProduct l g T p (⟨by omega, by omega⟩)) u_ml_RX6_90 u_st_yX6_isProduct u_in_RX6 u_co_yX6_isProduct hd_yX6_isProduct ⟨Nat.le_of_ble_eq_true rfl, Nat.le_of_ble_eq_true rfl⟩ ⟨Nat.le_of_ble_eq_true rfl, Nat.le_of_ble_eq_true rfl⟩ (Nat.le_of_ble_eq_true rfl) dX6_line_14 rfl (fun v14 u14 hp14 => ?_)
    obtain ⟨⟨b14, rfl⟩ | ⟨b14, rfl⟩, rfl⟩ := hp14
    · refine KSt (st2 := [.int (iI 1)]) rfl ?_
      obtain ⟨k, hk⟩ : ∃ k : Nat, p = (k : Int) := ⟨p.toNat, by omega⟩
      have ek : p.toNat = k := by omega
      have ezp : zP (sgM T q) p = sI T (q 81) (k : Int) := by rw [hk]; rfl
      refine KLvE (lv2 := [(0, .ref (q 80)), (1, .int (iI (o : Int))), (2, .int (iI (k : Int))), (3, .int (iI y))]) (congrArg (fun zz : Int => ([(0, .ref (q 80)), (1, .int (iI (o : Int))), (2, .int (iI zz)), (3, .int (iI y))] : List (Nat × Value))) (show (p : Int) = (k : Int) from hk)) ?_
      refine KIf_ne (tgt := 26) C dX6_line_17 (by decide) ⟨by omega, by omega⟩ (fun _ => ?_) (fun h => absurd h (by decide))
      refine KIload_n C dX6_line_26 rfl 3 rfl ?_
      refine KIconst C dX6_line_27 ?_
      refine KBipush C dX6_line_28 (by decide) ?_
      refine KCallS (As := [.int (iI y), .int (iI 1), .int (iI 99)]) (st := []) C (ct_X6_in l g T y 1 99 (⟨by omega, by omega⟩) (⟨by omega, by omega⟩) (⟨by omega, by omega⟩)) u_ml_RX6_62 u_st_yX6_in u_in_RX6 u_co_yX6_in hd_yX6_in ⟨Nat.le_of_ble_eq_true rfl, Nat.le_of_ble_eq_true rfl⟩ ⟨Nat.le_of_ble_eq_true rfl, Nat.le_of_ble_eq_true rfl⟩ (Nat.le_of_ble_eq_true rfl) dX6_line_30 rfl (fun v30 u30 hp30 => ?_)
      obtain ⟨⟨b30, rfl⟩ | ⟨b30, rfl⟩, rfl⟩ := hp30
      · refine KSt (st2 := [.int (iI 1)]) rfl ?_
        refine KIf_ne (tgt := 42) C dX6_line_33 (by decide) ⟨by omega, by omega⟩ (fun _ => ?_) (fun h => absurd h (by decide))
        refine KAload_n C dX6_line_42 rfl 0 rfl ?_
        refine KGetR (S := T) C ul_X6 rfl (by decide) 8 8 rfl (by decide) rfl u_fl_RX6_20 (hT.at0 80 7) (b := q 83) (hT.ptr 80 8 83) dX6_line_43 (fun _ h => h) ?_
        refine KIload_n C dX6_line_46 rfl 1 rfl ?_
        refine KIald (S := T)  (v := sI T (q 83) (o : Int)) C 40 (hT.at0 83 20) (hT.ln0 83 40) ⟨by omega, by omega⟩ (by omega) rfl dX6_line_47 ?_
        have rb1 := hR.b (q 83) (o : Int) (v := sI T (q 83) (o : Int)) rfl
        refine KIf_ne (tgt := 97) C dX6_line_48 (by decide) ⟨by omega, by omega⟩ (fun c48 => ?_) (fun c48 => ?_)
        · refine KAload_n C dX6_line_97 rfl 0 rfl ?_
          refine KIconst C dX6_line_98 ?_
          refine KCallV (As := [.int (iI 3)]) (b := q 80) (st := []) C (ct_X6_fails l g T q 3 hT (by omega)) u_ml_RX6_94 u_im_yX6_fails u_se_yX6_fails u_in_RX6 u_co_yX6_fails hd_yX6_fails (hT.at0 80 7) (by decide) rfl rfl ⟨Nat.le_of_ble_eq_true rfl, Nat.le_of_ble_eq_true rfl⟩ ⟨Nat.le_of_ble_eq_true rfl, Nat.le_of_ble_eq_true rfl⟩ (Nat.le_of_ble_eq_true rfl) dX6_line_99 rfl (fun v99 u99 hp99 => ?_)
          obtain ⟨rfl, rfl⟩ := hp99
          refine KSt (st2 := [.int (iI 0)]) rfl ?_
          refine KRg (fun hR => ?_)
          refine KIret C rfl rfl (by
            exact hlift _ _ ⟨3, 0, sgM T q, (by unfold oLin; rw [eo, ek, if_neg (by omega), if_neg (by omega)]; exact if_pos (by omega)), rfl, MP.thr hT hCn 3⟩) (by decide) (by decide) dX6_line_102
        · refine KAload_n C dX6_line_51 rfl 0 rfl ?_
          refine KGetR (S := T) C ul_X6 rfl (by decide) 10 10 rfl (by decide) rfl u_fl_RX6_26 (hT.at0 80 7) (b := q 85) (hT.ptr 80 10 85) dX6_line_52 (fun _ h => h) ?_
          refine KIload_n C dX6_line_55 rfl 1 rfl ?_
          refine KIald (S := T)  (v := sI T (q 85) (o : Int)) C 40 (hT.at0 85 20) (hT.ln0 85 40) ⟨by omega, by omega⟩ (by omega) rfl dX6_line_56 ?_
          have rb2 := hR.b (q 85) (o : Int) (v := sI T (q 85) (o : Int)) rfl
          refine KIconst C dX6_line_57 ?_
          refine KIcmp_eq (tgt := 97) C dX6_line_58 (by decide) ⟨by omega, by omega⟩ ⟨by omega, by omega⟩ (fun c58 => ?_) (fun c58 => ?_)
          · refine KAload_n C dX6_line_97 rfl 0 rfl ?_
            refine KIconst C dX6_line_98 ?_
            refine KCallV (As := [.int (iI 3)]) (b := q 80) (st := []) C (ct_X6_fails l g T q 3 hT (by omega)) u_ml_RX6_94 u_im_yX6_fails u_se_yX6_fails u_in_RX6 u_co_yX6_fails hd_yX6_fails (hT.at0 80 7) (by decide) rfl rfl ⟨Nat.le_of_ble_eq_true rfl, Nat.le_of_ble_eq_true rfl⟩ ⟨Nat.le_of_ble_eq_true rfl, Nat.le_of_ble_eq_true rfl⟩ (Nat.le_of_ble_eq_true rfl) dX6_line_99 rfl (fun v99 u99 hp99 => ?_)
            obtain ⟨rfl, rfl⟩ := hp99
            refine KSt (st2 := [.int (iI 0)]) rfl ?_
            refine KRg (fun hR => ?_)
            refine KIret C rfl rfl (by
              exact hlift _ _ ⟨3, 0, sgM T q, (by unfold oLin; rw [eo, ek, if_neg (by omega), if_neg (by omega)]; exact if_pos (by omega)), rfl, MP.thr hT hCn 3⟩) (by decide) (by decide) dX6_line_102
          · refine KAload_n C dX6_line_61 rfl 0 rfl ?_
            refine KGetR (S := T) C ul_X6 rfl (by decide) 10 10 rfl (by decide) rfl u_fl_RX6_26 (hT.at0 80 7) (b := q 85) (hT.ptr 80 10 85) dX6_line_62 (fun _ h => h) ?_
            refine KIload_n C dX6_line_65 rfl 1 rfl ?_
            refine KIald (S := T)  (v := sI T (q 85) (o : Int)) C 40 (hT.at0 85 20) (hT.ln0 85 40) ⟨by omega, by omega⟩ (by omega) rfl dX6_line_66 ?_
            have rb3 := hR.b (q 85) (o : Int) (v := sI T (q 85) (o : Int)) rfl
            refine KAload_n C dX6_line_67 rfl 0 rfl ?_
            refine KGetI (S := T) C ul_X6 rfl (by decide) 4 4 rfl (by decide) rfl u_fl_RX6_7 (hT.at0 80 7) (v := sI T (q 80) 4) rfl dX6_line_68 (fun _ h => h) ?_
            have rb4 := hR.b (q 80) 4 (v := sI T (q 80) 4) rfl
            refine KIcmp_ge (tgt := 97) C dX6_line_71 (by decide) ⟨by omega, by omega⟩ ⟨by omega, by omega⟩ (fun c71 => ?_) (fun c71 => ?_)
            · refine KAload_n C dX6_line_97 rfl 0 rfl ?_
              refine KIconst C dX6_line_98 ?_
              refine KCallV (As := [.int (iI 3)]) (b := q 80) (st := []) C (ct_X6_fails l g T q 3 hT (by omega)) u_ml_RX6_94 u_im_yX6_fails u_se_yX6_fails u_in_RX6 u_co_yX6_fails hd_yX6_fails (hT.at0 80 7) (by decide) rfl rfl ⟨Nat.le_of_ble_eq_true rfl, Nat.le_of_ble_eq_true rfl⟩ ⟨Nat.le_of_ble_eq_true rfl, Nat.le_of_ble_eq_true rfl⟩ (Nat.le_of_ble_eq_true rfl) dX6_line_99 rfl (fun v99 u99 hp99 => ?_)
              obtain ⟨rfl, rfl⟩ := hp99
              refine KSt (st2 := [.int (iI 0)]) rfl ?_
              refine KRg (fun hR => ?_)
              refine KIret C rfl rfl (by
                exact hlift _ _ ⟨3, 0, sgM T q, (by unfold oLin; rw [eo, ek, if_neg (by omega), if_neg (by omega)]; exact if_pos (by omega)), rfl, MP.thr hT hCn 3⟩) (by decide) (by decide) dX6_line_102
            · refine KAload_n C dX6_line_74 rfl 0 rfl ?_
              refine KIload_n C dX6_line_75 rfl 1 rfl ?_
              refine KCallV (As := [.int (iI (o : Int))]) (b := q 80) (st := []) C (ct_X6_wanted l g T q o hT hW.wl (by omega)) u_ml_RX6_111 u_im_yX6_wanted u_se_yX6_wanted u_in_RX6 u_co_yX6_wanted hd_yX6_wanted (hT.at0 80 7) (by decide) rfl rfl ⟨Nat.le_of_ble_eq_true rfl, Nat.le_of_ble_eq_true rfl⟩ ⟨Nat.le_of_ble_eq_true rfl, Nat.le_of_ble_eq_true rfl⟩ (Nat.le_of_ble_eq_true rfl) dX6_line_76 rfl (fun v76 u76 hp76 => ?_)
              obtain ⟨rfl, rfl⟩ := hp76
              refine KSt (st2 := [.int (iI ((zW (sgM T q) o : Nat) : Int))]) rfl ?_
              refine KRg (fun hR => ?_)
              have hwl := zW_lt hW.wl (o := o) (by omega)
              refine KIload_n C dX6_line_79 rfl 2 rfl ?_
              refine KIshr (v := iI ((zW (sgM T q) o / 2 ^ k : Nat) : Int)) C dX6_line_80 (ib_shr (by omega) (by omega)) ?_
              refine KIconst C dX6_line_81 ?_
              refine KIand (v := iI ((zW (sgM T q) o / 2 ^ k % 2 : Nat) : Int)) C dX6_line_82 (ib_bit (by omega) (by omega)) ?_
              refine KIconst C dX6_line_83 ?_
              refine KIcmp_eq (tgt := 97) C dX6_line_84 (by decide) ⟨by omega, by omega⟩ ⟨by omega, by omega⟩ (fun c84 => ?_) (fun c84 => ?_)
              · have hbt : zW (sgM T q) o / 2 ^ k % 2 = 1 := by omega
                refine KAload_n C dX6_line_97 rfl 0 rfl ?_
                refine KIconst C dX6_line_98 ?_
                refine KCallV (As := [.int (iI 3)]) (b := q 80) (st := []) C (ct_X6_fails l g T q 3 hT (by omega)) u_ml_RX6_94 u_im_yX6_fails u_se_yX6_fails u_in_RX6 u_co_yX6_fails hd_yX6_fails (hT.at0 80 7) (by decide) rfl rfl ⟨Nat.le_of_ble_eq_true rfl, Nat.le_of_ble_eq_true rfl⟩ ⟨Nat.le_of_ble_eq_true rfl, Nat.le_of_ble_eq_true rfl⟩ (Nat.le_of_ble_eq_true rfl) dX6_line_99 rfl (fun v99 u99 hp99 => ?_)
                obtain ⟨rfl, rfl⟩ := hp99
                refine KSt (st2 := [.int (iI 0)]) rfl ?_
                refine KRg (fun hR => ?_)
                refine KIret C rfl rfl (by
                  exact hlift _ _ ⟨3, 0, sgM T q, (by unfold oLin; rw [eo, ek, if_neg (by omega), if_neg (by omega)]; exact if_pos (by omega)), rfl, MP.thr hT hCn 3⟩) (by decide) (by decide) dX6_line_102
              · have hbt : ¬ zW (sgM T q) o / 2 ^ k % 2 = 1 := by omega
                refine KAload_n C dX6_line_87 rfl 0 rfl ?_
                refine KGetR (S := T) C ul_X6 rfl (by decide) 5 5 rfl (by decide) rfl u_fl_RX6_13 (hT.at0 80 7) (b := q 81) (hT.ptr 80 5 81) dX6_line_88 (fun _ h => h) ?_
                refine KIload_n C dX6_line_91 rfl 2 rfl ?_
                refine KIald (S := T)  (v := sI T (q 81) (k : Int)) C 20 (hT.at0 81 20) (hT.ln0 81 20) ⟨by omega, by omega⟩ (by omega) rfl dX6_line_92 ?_
                have rb5 := hR.b (q 81) (k : Int) (v := sI T (q 81) (k : Int)) rfl
                refine KIconst C dX6_line_93 ?_
                refine KIcmp_ne (tgt := 103) C dX6_line_94 (by decide) ⟨by omega, by omega⟩ ⟨by omega, by omega⟩ (fun c94 => ?_) (fun c94 => ?_)
                · refine KAload_n C dX6_line_103 rfl 0 rfl ?_
                  refine KGetR (S := T) C ul_X6 rfl (by decide) 11 11 rfl (by decide) rfl u_fl_RX6_29 (hT.at0 80 7) (b := q 86) (hT.ptr 80 11 86) dX6_line_104 (fun _ h => h) ?_
                  refine KIconst C dX6_line_107 ?_
                  refine KIload_n C dX6_line_108 rfl 1 rfl ?_
                  refine KImul C dX6_line_109 ?_
                  refine KAload_n C dX6_line_110 rfl 0 rfl ?_
                  refine KGetR (S := T) C ul_X6 rfl (by decide) 10 10 rfl (by decide) rfl u_fl_RX6_26 (hT.at0 80 7) (b := q 85) (hT.ptr 80 10 85) dX6_line_111 (fun _ h => h) ?_
                  refine KIload_n C dX6_line_114 rfl 1 rfl ?_
                  refine KIald (S := T)  (v := sI T (q 85) (o : Int)) C 40 (hT.at0 85 20) (hT.ln0 85 40) ⟨by omega, by omega⟩ (by omega) rfl dX6_line_115 ?_
                  have rb6 := hR.b (q 85) (o : Int) (v := sI T (q 85) (o : Int)) rfl
                  refine KIadd C dX6_line_116 ?_
                  refine KIload_n C dX6_line_117 rfl 2 rfl ?_
                  refine KIast (S := T) C 200 (hT.at0 86 20) (hT.ln0 86 200) ⟨by omega, by omega⟩ (by omega) ⟨by omega, by omega⟩ dX6_line_118 ?_
                  refine KSto (S2 := wI T (row1 (sI T) (q 86) (upd1 (sI T (q 86)) (5 * (o : Int) + sI T (q 85) (o : Int)) (k : Int)))) (congrArg (wI T) (up2_to_row1 _ _ _ _)) ?_
                  refine KAload_n C dX6_line_119 rfl 0 rfl ?_
                  refine KGetR (S := wI T (row1 (sI T) (q 86) (upd1 (sI T (q 86)) (5 * (o : Int) + sI T (q 85) (o : Int)) (k : Int)))) C ul_X6 rfl (by decide) 12 12 rfl (by decide) rfl u_fl_RX6_32 (hT.at0 80 7) (b := q 87) (hT.ptr 80 12 87) dX6_line_120 (fun _ h => h) ?_
                  refine KIconst C dX6_line_123 ?_
                  refine KIload_n C dX6_line_124 rfl 1 rfl ?_
                  refine KImul C dX6_line_125 ?_
                  refine KAload_n C dX6_line_126 rfl 0 rfl ?_
                  refine KGetR (S := wI T (row1 (sI T) (q 86) (upd1 (sI T (q 86)) (5 * (o : Int) + sI T (q 85) (o : Int)) (k : Int)))) C ul_X6 rfl (by decide) 10 10 rfl (by decide) rfl u_fl_RX6_26 (hT.at0 80 7) (b := q 85) (hT.ptr 80 10 85) dX6_line_127 (fun _ h => h) ?_
                  refine KIload_n C dX6_line_130 rfl 1 rfl ?_
                  refine KIald (S := wI T (row1 (sI T) (q 86) (upd1 (sI T (q 86)) (5 * (o : Int) + sI T (q 85) (o : Int)) (k : Int))))  (v := sI T (q 85) (o : Int)) C 40 (hT.at0 85 20) (hT.ln0 85 40) ⟨by omega, by omega⟩ (by omega) (row1_ne _ _ _ (hT.ne 85 86)) dX6_line_131 ?_
                  refine KIadd C dX6_line_132 ?_
                  refine KIload_n C dX6_line_133 rfl 3 rfl ?_
                  refine KIast (S := wI T (row1 (sI T) (q 86) (upd1 (sI T (q 86)) (5 * (o : Int) + sI T (q 85) (o : Int)) (k : Int)))) C 200 (hT.at0 87 20) (hT.ln0 87 200) ⟨by omega, by omega⟩ (by omega) ⟨by omega, by omega⟩ dX6_line_134 ?_
                  refine KSto (S2 := wI T (row1 (row1 (sI T) (q 86) (upd1 (sI T (q 86)) (5 * (o : Int) + sI T (q 85) (o : Int)) (k : Int))) (q 87) (upd1 (sI T (q 87)) (5 * (o : Int) + sI T (q 85) (o : Int)) y))) (congrArg (wI T) ((up2_to_row1 _ _ _ _).trans (congrArg (fun zz => row1 _ (q 87) (upd1 zz _ _)) (funext fun _ => row1_ne _ _ _ (hT.ne 87 86))))) ?_
                  refine KAload_n C dX6_line_135 rfl 0 rfl ?_
                  refine KGetR (S := wI T (row1 (row1 (sI T) (q 86) (upd1 (sI T (q 86)) (5 * (o : Int) + sI T (q 85) (o : Int)) (k : Int))) (q 87) (upd1 (sI T (q 87)) (5 * (o : Int) + sI T (q 85) (o : Int)) y))) C ul_X6 rfl (by decide) 10 10 rfl (by decide) rfl u_fl_RX6_26 (hT.at0 80 7) (b := q 85) (hT.ptr 80 10 85) dX6_line_136 (fun _ h => h) ?_
                  refine KIload_n C dX6_line_139 rfl 1 rfl ?_
                  refine KDup2 C dX6_line_140 rfl rfl ?_
                  refine KIald (S := wI T (row1 (row1 (sI T) (q 86) (upd1 (sI T (q 86)) (5 * (o : Int) + sI T (q 85) (o : Int)) (k : Int))) (q 87) (upd1 (sI T (q 87)) (5 * (o : Int) + sI T (q 85) (o : Int)) y)))  (v := sI T (q 85) (o : Int)) C 40 (hT.at0 85 20) (hT.ln0 85 40) ⟨by omega, by omega⟩ (by omega) ((row1_ne _ _ _ (hT.ne 85 87)).trans (row1_ne _ _ _ (hT.ne 85 86))) dX6_line_141 ?_
                  refine KIconst C dX6_line_142 ?_
                  refine KIadd C dX6_line_143 ?_
                  refine KIast (S := wI T (row1 (row1 (sI T) (q 86) (upd1 (sI T (q 86)) (5 * (o : Int) + sI T (q 85) (o : Int)) (k : Int))) (q 87) (upd1 (sI T (q 87)) (5 * (o : Int) + sI T (q 85) (o : Int)) y))) C 40 (hT.at0 85 20) (hT.ln0 85 40) ⟨by omega, by omega⟩ (by omega) ⟨by omega, by omega⟩ dX6_line_144 ?_
                  refine KSto (S2 := wI T (row1 (row1 (row1 (sI T) (q 86) (upd1 (sI T (q 86)) (5 * (o : Int) + sI T (q 85) (o : Int)) (k : Int))) (q 87) (upd1 (sI T (q 87)) (5 * (o : Int) + sI T (q 85) (o : Int)) y)) (q 85) (upd1 (sI T (q 85)) (o : Int) (sI T (q 85) (o : Int) + 1)))) (congrArg (wI T) ((up2_to_row1 _ _ _ _).trans (congrArg (fun zz => row1 _ (q 85) (upd1 zz _ _)) (funext fun _ => (row1_ne _ _ _ (hT.ne 85 87)).trans (row1_ne _ _ _ (hT.ne 85 86)))))) ?_
                  refine KAload_n C dX6_line_145 rfl 0 rfl ?_
                  refine KGetR (S := wI T (row1 (row1 (row1 (sI T) (q 86) (upd1 (sI T (q 86)) (5 * (o : Int) + sI T (q 85) (o : Int)) (k : Int))) (q 87) (upd1 (sI T (q 87)) (5 * (o : Int) + sI T (q 85) (o : Int)) y)) (q 85) (upd1 (sI T (q 85)) (o : Int) (sI T (q 85) (o : Int) + 1)))) C ul_X6 rfl (by decide) 10 10 rfl (by decide) rfl u_fl_RX6_26 (hT.at0 80 7) (b := q 85) (hT.ptr 80 10 85) dX6_line_146 (fun _ h => h) ?_
                  refine KIload_n C dX6_line_149 rfl 1 rfl ?_
                  refine KIald (S := wI T (row1 (row1 (row1 (sI T) (q 86) (upd1 (sI T (q 86)) (5 * (o : Int) + sI T (q 85) (o : Int)) (k : Int))) (q 87) (upd1 (sI T (q 87)) (5 * (o : Int) + sI T (q 85) (o : Int)) y)) (q 85) (upd1 (sI T (q 85)) (o : Int) (sI T (q 85) (o : Int) + 1))))  (v := sI T (q 85) (o : Int) + 1) C 40 (hT.at0 85 20) (hT.ln0 85 40) ⟨by omega, by omega⟩ (by omega) ((row1_same _ _ _ _).trans (if_pos rfl)) dX6_line_150 ?_
                  refine KIret C rfl rfl (by
                    exact hlift _ _ ⟨0, zmn (sgM T q) a + 1, zlin (sgM T q) o p y, (by unfold oLin; rw [eo, ek, if_neg (by omega), if_neg (by omega)]; exact if_neg (by omega)), by rw [ez5], by rw [hk]; exact MP.rows0 (fun a ha => ((funext fun _ => row1_ne _ _ _ (fun e9 => ha ⟨85, by omega, by omega, e9⟩)).trans ((funext fun _ => row1_ne _ _ _ (fun e9 => ha ⟨87, by omega, by omega, e9⟩)).trans (funext fun _ => row1_ne _ _ _ (fun e9 => ha ⟨86, by omega, by omega, e9⟩))))) ((row1_ne _ _ _ (hT.ne 80 85)).trans ((row1_ne _ _ _ (hT.ne 80 87)).trans ((row1_ne _ _ _ (hT.ne 80 86)).trans h00))) ⟨((row1_ne _ _ _ (hT.ne 80 85)).trans ((row1_ne _ _ _ (hT.ne 80 87)).trans (row1_ne _ _ _ (hT.ne 80 86)))), ((row1_ne _ _ _ (hT.ne 80 85)).trans ((row1_ne _ _ _ (hT.ne 80 87)).trans (row1_ne _ _ _ (hT.ne 80 86)))), ((row1_ne _ _ _ (hT.ne 80 85)).trans ((row1_ne _ _ _ (hT.ne 80 87)).trans (row1_ne _ _ _ (hT.ne 80 86)))), ((row1_ne _ _ _ (hT.ne 80 85)).trans ((row1_ne _ _ _ (hT.ne 80 87)).trans (row1_ne _ _ _ (hT.ne 80 86))))⟩ ⟨((row1_ne _ _ _ (hT.ne 80 85)).trans ((row1_ne _ _ _ (hT.ne 80 87)).trans ((row1_ne _ _ _ (hT.ne 80 86)).trans hc6))), ((row1_ne _ _ _ (hT.ne 80 85)).trans ((row1_ne _ _ _ (hT.ne 80 87)).trans ((row1_ne _ _ _ (hT.ne 80 86)).trans hc13))), ((row1_ne _ _ _ (hT.ne 80 85)).trans ((row1_ne _ _ _ (hT.ne 80 87)).trans (row1_ne _ _ _ (hT.ne 80 86)))), rfl⟩ ⟨((funext fun _ => row1_ne _ _ _ (hT.ne 81 85)).trans ((funext fun _ => row1_ne _ _ _ (hT.ne 81 87)).trans (funext fun _ => row1_ne _ _ _ (hT.ne 81 86)))), ((funext fun _ => row1_ne _ _ _ (hT.ne 82 85)).trans ((funext fun _ => row1_ne _ _ _ (hT.ne 82 87)).trans (funext fun _ => row1_ne _ _ _ (hT.ne 82 86)))), ((funext fun _ => row1_ne _ _ _ (hT.ne 83 85)).trans ((funext fun _ => row1_ne _ _ _ (hT.ne 83 87)).trans (funext fun _ => row1_ne _ _ _ (hT.ne 83 86)))), ((funext fun _ => row1_ne _ _ _ (hT.ne 84 85)).trans ((funext fun _ => row1_ne _ _ _ (hT.ne 84 87)).trans (funext fun _ => row1_ne _ _ _ (hT.ne 84 86)))), (funext fun _ => row1_same _ _ _ _), ((funext fun _ => row1_ne _ _ _ (hT.ne 86 85)).trans ((funext fun _ => row1_ne _ _ _ (hT.ne 86 87)).trans (funext fun _ => row1_same _ _ _ _))), ((funext fun _ => row1_ne _ _ _ (hT.ne 87 85)).trans (funext fun _ => row1_same _ _ _ _))⟩⟩) (by decide) (by decide) dX6_line_151
                · refine KAload_n C dX6_line_97 rfl 0 rfl ?_
                  refine KIconst C dX6_line_98 ?_
                  refine KCallV (As := [.int (iI 3)]) (b := q 80) (st := []) C (ct_X6_fails l g T q 3 hT (by omega)) u_ml_RX6_94 u_im_yX6_fails u_se_yX6_fails u_in_RX6 u_co_yX6_fails hd_yX6_fails (hT.at0 80 7) (by decide) rfl rfl ⟨Nat.le_of_ble_eq_true rfl, Nat.le_of_ble_eq_true rfl⟩ ⟨Nat.le_of_ble_eq_true rfl, Nat.le_of_ble_eq_true rfl⟩ (Nat.le_of_ble_eq_true rfl) dX6_line_99 rfl (fun v99 u99 hp99 => ?_)
                  obtain ⟨rfl, rfl⟩ := hp99
                  refine KSt (st2 := [.int (iI 0)]) rfl ?_
                  refine KRg (fun hR => ?_)
                  refine KIret C rfl rfl (by
                    exact hlift _ _ ⟨3, 0, sgM T q, (by unfold oLin; rw [eo, ek, if_neg (by omega), if_neg (by omega)]; exact if_pos (by omega)), rfl, MP.thr hT hCn 3⟩) (by decide) (by decide) dX6_line_102
      · refine KSt (st2 := [.int (iI 0)]) rfl ?_
        refine KIf_ne (tgt := 42) C dX6_line_33 (by decide) ⟨by omega, by omega⟩ (fun h => absurd h (by decide)) (fun _ => ?_)
        refine KAload_n C dX6_line_36 rfl 0 rfl ?_
        refine KIconst C dX6_line_37 ?_
        refine KCallV (As := [.int (iI 2)]) (b := q 80) (st := []) C (ct_X6_fails l g T q 2 hT (by omega)) u_ml_RX6_94 u_im_yX6_fails u_se_yX6_fails u_in_RX6 u_co_yX6_fails hd_yX6_fails (hT.at0 80 7) (by decide) rfl rfl ⟨Nat.le_of_ble_eq_true rfl, Nat.le_of_ble_eq_true rfl⟩ ⟨Nat.le_of_ble_eq_true rfl, Nat.le_of_ble_eq_true rfl⟩ (Nat.le_of_ble_eq_true rfl) dX6_line_38 rfl (fun v38 u38 hp38 => ?_)
        obtain ⟨rfl, rfl⟩ := hp38
        refine KSt (st2 := [.int (iI 0)]) rfl ?_
        refine KRg (fun hR => ?_)
        refine KIret C rfl rfl (by
          exact hlift _ _ ⟨2, 0, sgM T q, (by unfold oLin; rw [if_neg (by omega)]; exact if_pos (by omega)), rfl, MP.thr hT hCn 2⟩) (by decide) (by decide) dX6_line_41
    · refine KSt (st2 := [.int (iI 0)]) rfl ?_
      refine KIf_ne (tgt := 26) C dX6_line_17 (by decide) ⟨by omega, by omega⟩ (fun h => absurd h (by decide)) (fun _ => ?_)
      refine KAload_n C dX6_line_20 rfl 0 rfl ?_
      refine KIconst C dX6_line_21 ?_
      refine KCallV (As := [.int (iI 1)]) (b := q 80) (st := []) C (ct_X6_fails l g T q 1 hT (by omega)) u_ml_RX6_94 u_im_yX6_fails u_se_yX6_fails u_in_RX6 u_co_yX6_fails hd_yX6_fails (hT.at0 80 7) (by decide) rfl rfl ⟨Nat.le_of_ble_eq_true rfl, Nat.le_of_ble_eq_true rfl⟩ ⟨Nat.le_of_ble_eq_true rfl, Nat.le_of_ble_eq_true rfl⟩ (Nat.le_of_ble_eq_true rfl) dX6_line_22 rfl (fun v22 u22 hp22 => ?_)
      obtain ⟨rfl, rfl⟩ := hp22
      refine KSt (st2 := [.int (iI 0)]) rfl ?_
      refine KRg (fun hR => ?_)
      refine KIret C rfl rfl (by
        exact hlift _ _ ⟨1, 0, sgM T q, (by unfold oLin; (repeat' split) <;> first | rfl | omega), rfl, MP.thr hT hCn 1⟩) (by decide) (by decide) dX6_line_25
  · refine KSt (st2 := [.int (iI 0)]) rfl ?_
    refine KIf_eq (tgt := 20) C dX6_line_10 (by decide) ⟨by omega, by omega⟩ (fun _ => ?_) (fun h => absurd h (by decide))
    refine KAload_n C dX6_line_20 rfl 0 rfl ?_
    refine KIconst C dX6_line_21 ?_
    refine KCallV (As := [.int (iI 1)]) (b := q 80) (st := []) C (ct_X6_fails l g T q 1 hT (by omega)) u_ml_RX6_94 u_im_yX6_fails u_se_yX6_fails u_in_RX6 u_co_yX6_fails hd_yX6_fails (hT.at0 80 7) (by decide) rfl rfl ⟨Nat.le_of_ble_eq_true rfl, Nat.le_of_ble_eq_true rfl⟩ ⟨Nat.le_of_ble_eq_true rfl, Nat.le_of_ble_eq_true rfl⟩ (Nat.le_of_ble_eq_true rfl) dX6_line_22 rfl (fun v22 u22 hp22 => ?_)
    obtain ⟨rfl, rfl⟩ := hp22
    refine KSt (st2 := [.int (iI 0)]) rfl ?_
    refine KRg (fun hR => ?_)
    refine KIret C rfl rfl (by
      exact hlift _ _ ⟨1, 0, sgM T q, (by unfold oLin; (repeat' split) <;> first | rfl | omega), rfl, MP.thr hT hCn 1⟩) (by decide) (by decide) dX6_line_25
def P_X6_lengthAlone (S : Sto) (q : Nat → Nat) (a : Int) : Option Value → Sto → Prop := fun v u => ∃ c r z', oLa (sgM S q) a = (c, r, z') ∧ v = some (.int (iI r)) ∧ MP S q u c z'
set_option maxRecDepth 100000 in
set_option maxHeartbeats 4000000 in
theorem ct_X6_lengthAlone (l : Launch) (g : GG) (S : Sto) (q : Nat → Nat) (a : Int) (hT : Top S q) (hW : Wf (sgM S q)) (hCn : Cn S q) (hia : inR a) : MetS l g yX6_lengthAlone cX6_lengthAlone 2 (some FieldType.int) 6 0 0 [.ref (q 80), .int (iI a)] S (P_X6_lengthAlone S q a) := by
  refine MetS.of (own := RX6) (lv := [(0, .ref (q 80)), (1, .int (iI a))]) (by decide) rfl (Nat.le_of_ble_eq_true rfl) rfl ?_
  intro pX eX sX mX argsX belowX methX cX C hin
  refine KRg (fun hR => ?_)
  obtain ⟨a1, a2⟩ := id hia
  refine KAload_n C dX6_lengthAlone_0 rfl 0 rfl ?_
  refine KIconst C dX6_lengthAlone_1 ?_
  obtain ⟨T, hTT, hT9, hW, hCn, h00, hz, hM⟩ := MP.start hT hW hCn
  refine KPutI (ty := .int) (v := 0) C ul_X6 rfl (by decide) 0 0 rfl (by decide) rfl u_fl_RX6_59 tyX6 tyX6_ok nmX6 (hT.at0 80 7) ⟨by omega, by omega⟩ (by decide +kernel) rfl rfl rfl dX6_lengthAlone_2 (fun _ h => h) ?_
  refine KSto (S2 := T) hTT.symm ?_
  have hT := hT9
  have hlift : ∀ v u, P_X6_lengthAlone T q a v u → P_X6_lengthAlone S q a v u := fun v u ⟨c, r, z', h1, h2, h3⟩ => ⟨c, r, z', hz ▸ h1, h2, hM.trans h3⟩
  refine KRg (fun hR => ?_)
  obtain ⟨hc6, hc13⟩ := id hCn
  have hCm : CfM T q := hW.cf
  obtain ⟨hA1, hA2, hN1, hN2, hG1, hG2⟩ := id hCm
  obtain ⟨ho40, hbo⟩ := hW.2.1
  have ezA : zA (sgM T q) = sI T (q 80) 1 := rfl
  have ezN : zN (sgM T q) = sI T (q 80) 2 := rfl
  refine KAload_n C dX6_lengthAlone_5 rfl 0 rfl ?_
  refine KIload_n C dX6_lengthAlone_6 rfl 1 rfl ?_
  refine KCallV (As := [.int (iI a)]) (b := q 80) (st := []) C (ct_X6_isOrder l g T q a hT (⟨by omega, by omega⟩) (by omega)) u_ml_RX6_108 u_im_yX6_isOrder u_se_yX6_isOrder u_in_RX6 u_co_yX6_isOrder hd_yX6_isOrder (hT.at0 80 7) (by decide) rfl rfl ⟨Nat.le_of_ble_eq_true rfl, Nat.le_of_ble_eq_true rfl⟩ ⟨Nat.le_of_ble_eq_true rfl, Nat.le_of_ble_eq_true rfl⟩ (Nat.le_of_ble_eq_true rfl) dX6_lengthAlone_7 rfl (fun v7 u7 hp7 => ?_)
  obtain ⟨⟨b7, rfl⟩ | ⟨b7, rfl⟩, rfl⟩ := hp7
  · refine KSt (st2 := [.int (iI 1)]) rfl ?_
    obtain ⟨o, ho⟩ : ∃ o : Nat, a = (o : Int) := ⟨a.toNat, by omega⟩
    have eo : a.toNat = o := by omega
    refine KLvE (lv2 := [(0, .ref (q 80)), (1, .int (iI (o : Int)))]) (congrArg (fun zz : Int => ([(0, .ref (q 80)), (1, .int (iI zz))] : List (Nat × Value))) (show (a : Int) = (o : Int) from ho)) ?_
    refine KIf_eq (tgt := 25) C dX6_lengthAlone_10 (by decide) ⟨by omega, by omega⟩ (fun h => absurd h (by decide)) (fun _ => ?_)
    refine KAload_n C dX6_lengthAlone_13 rfl 0 rfl ?_
    refine KAload_n C dX6_lengthAlone_14 rfl 0 rfl ?_
    refine KIload_n C dX6_lengthAlone_15 rfl 1 rfl ?_
    refine KCallV (As := [.int (iI (o : Int))]) (b := q 80) (st := [.ref (q 80)]) C (ct_X6_wanted l g T q o hT hW.wl (by omega)) u_ml_RX6_111 u_im_yX6_wanted u_se_yX6_wanted u_in_RX6 u_co_yX6_wanted hd_yX6_wanted (hT.at0 80 7) (by decide) rfl rfl ⟨Nat.le_of_ble_eq_true rfl, Nat.le_of_ble_eq_true rfl⟩ ⟨Nat.le_of_ble_eq_true rfl, Nat.le_of_ble_eq_true rfl⟩ (Nat.le_of_ble_eq_true rfl) dX6_lengthAlone_16 rfl (fun v16 u16 hp16 => ?_)
    obtain ⟨rfl, rfl⟩ := hp16
    refine KSt (st2 := [.int (iI ((zW (sgM T q) o : Nat) : Int)), .ref (q 80)]) rfl ?_
    refine KRg (fun hR => ?_)
    refine KCallV (As := [.int (iI ((zW (sgM T q) o : Nat) : Int))]) (b := q 80) (st := []) C (ct_X6_length l g T q (zW (sgM T q) o) hT hCm (hW.okW (by omega))) u_ml_RX6_114 u_im_yX6_length u_se_yX6_length u_in_RX6 u_co_yX6_length hd_yX6_length (hT.at0 80 7) (by decide) rfl rfl ⟨Nat.le_of_ble_eq_true rfl, Nat.le_of_ble_eq_true rfl⟩ ⟨Nat.le_of_ble_eq_true rfl, Nat.le_of_ble_eq_true rfl⟩ (Nat.le_of_ble_eq_true rfl) dX6_lengthAlone_19 rfl (fun v19 u19 hp19 => ?_)
    obtain ⟨rfl, f19, rfl, hK19, hs19⟩ := hp19
    refine KSt (st2 := [.int (iI (tour (sI T (q 80) 2) (sI T (q 80) 3) (sI T (q 81)) (zW (sgM T q) o)))]) rfl ?_
    refine KRg (fun hR => ?_)
    refine KGoto (tgt := 30) C dX6_lengthAlone_22 (by decide) ?_
    refine KIret C rfl rfl (by
      first | exact hlift _ _ ⟨0, zto (sgM T q) (zW (sgM T q) o), _, (by unfold oLa; rw [eo]; exact if_pos ⟨by omega, by omega⟩), rfl, MP.kept0 hT hCn h00 hK19⟩ | exact hlift _ _ ⟨1, _, _, (by unfold oLa; exact if_neg (by omega)), rfl, MP.thr hT hCn 1⟩) (by decide) (by decide) dX6_lengthAlone_30
  · refine KSt (st2 := [.int (iI 0)]) rfl ?_
    refine KIf_eq (tgt := 25) C dX6_lengthAlone_10 (by decide) ⟨by omega, by omega⟩ (fun _ => ?_) (fun h => absurd h (by decide))
    refine KAload_n C dX6_lengthAlone_25 rfl 0 rfl ?_
    refine KIconst C dX6_lengthAlone_26 ?_
    refine KCallV (As := [.int (iI 1)]) (b := q 80) (st := []) C (ct_X6_fails l g T q 1 hT (by omega)) u_ml_RX6_94 u_im_yX6_fails u_se_yX6_fails u_in_RX6 u_co_yX6_fails hd_yX6_fails (hT.at0 80 7) (by decide) rfl rfl ⟨Nat.le_of_ble_eq_true rfl, Nat.le_of_ble_eq_true rfl⟩ ⟨Nat.le_of_ble_eq_true rfl, Nat.le_of_ble_eq_true rfl⟩ (Nat.le_of_ble_eq_true rfl) dX6_lengthAlone_27 rfl (fun v27 u27 hp27 => ?_)
    obtain ⟨rfl, rfl⟩ := hp27
    refine KSt (st2 := [.int (iI 0)]) rfl ?_
    refine KRg (fun hR => ?_)
    refine KIret C rfl rfl (by
      first | exact hlift _ _ ⟨0, zto (sgM T q) (zW (sgM T q) o), _, (by unfold oLa; rw [eo]; exact if_pos ⟨by omega, by omega⟩), rfl, MP.kept0 hT hCn h00 hK19⟩ | exact hlift _ _ ⟨1, _, _, (by unfold oLa; exact if_neg (by omega)), rfl, MP.thr hT hCn 1⟩) (by decide) (by decide) dX6_lengthAlone_30
def P_X6_setCapacity (S : Sto) (q : Nat → Nat) (x : Int) : Option Value → Sto → Prop := fun v u => ∃ c r z', oCap (sgM S q) x = (c, r, z') ∧ v = some (.int (iI r)) ∧ MP S q u c z'
set_option maxRecDepth 100000 in
set_option maxHeartbeats 4000000 in
theorem ct_X6_setCapacity (l : Launch) (g : GG) (S : Sto) (q : Nat → Nat) (x : Int) (hT : Top S q) (hW : Wf (sgM S q)) (hCn : Cn S q) (hix : inR x) : MetS l g yX6_setCapacity cX6_setCapacity 4 (some FieldType.int) 2 0 0 [.ref (q 80), .int (iI x)] S (P_X6_setCapacity S q x) := by
  refine MetS.of (own := RX6) (lv := [(0, .ref (q 80)), (1, .int (iI x))]) (by decide) rfl (Nat.le_of_ble_eq_true rfl) rfl ?_
  intro pX eX sX mX argsX belowX methX cX C hin
  refine KRg (fun hR => ?_)
  obtain ⟨x1, x2⟩ := id hix
  refine KAload_n C dX6_setCapacity_0 rfl 0 rfl ?_
  refine KIconst C dX6_setCapacity_1 ?_
  obtain ⟨T, hTT, hT9, hW, hCn, h00, hz, hM⟩ := MP.start hT hW hCn
  refine KPutI (ty := .int) (v := 0) C ul_X6 rfl (by decide) 0 0 rfl (by decide) rfl u_fl_RX6_59 tyX6 tyX6_ok nmX6 (hT.at0 80 7) ⟨by omega, by omega⟩ (by decide +kernel) rfl rfl rfl dX6_setCapacity_2 (fun _ h => h) ?_
  refine KSto (S2 := T) hTT.symm ?_
  have hT := hT9
  have hlift : ∀ v u, P_X6_setCapacity T q x v u → P_X6_setCapacity S q x v u := fun v u ⟨c, r, z', h1, h2, h3⟩ => ⟨c, r, z', hz ▸ h1, h2, hM.trans h3⟩
  refine KRg (fun hR => ?_)
  obtain ⟨hc6, hc13⟩ := id hCn
  have hCm : CfM T q := hW.cf
  obtain ⟨hA1, hA2, hN1, hN2, hG1, hG2⟩ := id hCm
  obtain ⟨ho40, hbo⟩ := hW.2.1
  have ezA : zA (sgM T q) = sI T (q 80) 1 := rfl
  have ezN : zN (sgM T q) = sI T (q 80) 2 := rfl
  refine KIload_n C dX6_setCapacity_5 rfl 1 rfl ?_
  refine KIconst C dX6_setCapacity_6 ?_
  refine KBipush C dX6_setCapacity_7 (by decide) ?_
  refine KCallS (As := [.int (iI x), .int (iI 1), .int (iI 9)]) (st := []) C (ct_X6_in l g T x 1 9 (⟨by omega, by omega⟩) (⟨by omega, by omega⟩) (⟨by omega, by omega⟩)) u_ml_RX6_62 u_st_yX6_in u_in_RX6 u_co_yX6_in hd_yX6_in ⟨Nat.le_of_ble_eq_true rfl, Nat.le_of_ble_eq_true rfl⟩ ⟨Nat.le_of_ble_eq_true rfl, Nat.le_of_ble_eq_true rfl⟩ (Nat.le_of_ble_eq_true rfl) dX6_setCapacity_9 rfl (fun v9 u9 hp9 => ?_)
  obtain ⟨⟨b9, rfl⟩ | ⟨b9, rfl⟩, rfl⟩ := hp9
  · refine KSt (st2 := [.int (iI 1)]) rfl ?_
    refine KIf_ne (tgt := 21) C dX6_setCapacity_12 (by decide) ⟨by omega, by omega⟩ (fun _ => ?_) (fun h => absurd h (by decide))
    refine KAload_n C dX6_setCapacity_21 rfl 0 rfl ?_
    refine KGetI (S := T) C ul_X6 rfl (by decide) 13 13 rfl (by decide) rfl u_fl_RX6_69 (hT.at0 80 7) (v := ((zb (sgM T q) : Nat) : Int)) hc13 dX6_setCapacity_22 (fun _ h => h) ?_
    have rb1 := hR.b (q 80) 13 (v := ((zb (sgM T q) : Nat) : Int)) hc13
    refine KIf_ne (tgt := 32) C dX6_setCapacity_25 (by decide) ⟨by omega, by omega⟩ (fun c25 => ?_) (fun c25 => ?_)
    · refine KIconst C dX6_setCapacity_32 ?_
      refine KTop (congrArg iI (show 0 = canI (sgM T q) x 0 from (by unfold canI; first | rw [if_pos (by omega)] | rw [if_neg (by omega)]))) ?_
      refine KIstore_n (lv' := [(2, .int (iI (canI (sgM T q) x 0))), (0, .ref (q 80)), (1, .int (iI x))]) C dX6_setCapacity_33 rfl (by decide) rfl ?_
      refine KIconst C dX6_setCapacity_34 ?_
      refine KIstore_n (lv' := [(3, .int (iI 0)), (2, .int (iI (canI (sgM T q) x 0))), (0, .ref (q 80)), (1, .int (iI x))]) C dX6_setCapacity_35 rfl (by decide) rfl ?_
      refine KLv (lv' := [(0, .ref (q 80)), (1, .int (iI x)), (2, .int (iI (canI (sgM T q) x 0))), (3, .int (iI 0))]) [2, 3, 1, 0] rfl ?_
      have loop36 : ∀ (nX : Nat) (n : Nat), zo (sgM T q) - n < nX → (n ≤ zo (sgM T q)) → Wk pX l eX (rmK 2 0 0) sX mX argsX belowX methX cX (MQ belowX (QcG g (P_X6_setCapacity S q x)) argsX sX 0 0 (ge (gB g))) g 4 0 0 36 [(0, .ref (q 80)), (1, .int (iI x)), (2, .int (iI (canI (sgM T q) x n))), (3, .int (iI (n : Int)))] [] T := by
        intro nX
        induction nX with
        | zero => intro n hm; exact absurd hm (Nat.not_lt_zero _)
        | succ nX ih36 =>
          intro n hm36 hn
          refine KRg (fun hR => ?_)
          have hcb := canI_b (sgM T q) x n
          have ez3 : zst (sgM T q) (n : Int) = sI T (q 83) (n : Int) := rfl
          have ez5 : zmn (sgM T q) (n : Int) = sI T (q 85) (n : Int) := rfl
          refine KIload_n C dX6_setCapacity_36 rfl 3 rfl ?_
          refine KAload_n C dX6_setCapacity_37 rfl 0 rfl ?_
          refine KGetI (S := T) C ul_X6 rfl (by decide) 6 6 rfl (by decide) rfl u_fl_RX6_66 (hT.at0 80 7) (v := ((zo (sgM T q) : Nat) : Int)) hc6 dX6_setCapacity_38 (fun _ h => h) ?_
          have rb2 := hR.b (q 80) 6 (v := ((zo (sgM T q) : Nat) : Int)) hc6
          refine KIcmp_ge (tgt := 80) C dX6_setCapacity_41 (by decide) ⟨by omega, by omega⟩ ⟨by omega, by omega⟩ (fun c41 => ?_) (fun c41 => ?_)
          · have hnn : zo (sgM T q) = n := by omega
            refine KIload_n C dX6_setCapacity_80 rfl 2 rfl ?_
            refine KIf_ne (tgt := 90) C dX6_setCapacity_81 (by decide) ⟨by omega, by omega⟩ (fun c81 => ?_) (fun c81 => ?_)
            · refine KAload_n C dX6_setCapacity_90 rfl 0 rfl ?_
              refine KGetI (S := T) C ul_X6 rfl (by decide) 4 4 rfl (by decide) rfl u_fl_RX6_7 (hT.at0 80 7) (v := sI T (q 80) 4) rfl dX6_setCapacity_91 (fun _ h => h) ?_
              have rb3 := hR.b (q 80) 4 (v := sI T (q 80) 4) rfl
              refine KIstore_n (lv' := [(3, .int (iI (sI T (q 80) 4))), (0, .ref (q 80)), (1, .int (iI x)), (2, .int (iI (canI (sgM T q) x n)))]) C dX6_setCapacity_94 rfl (by decide) rfl ?_
              refine KAload_n C dX6_setCapacity_95 rfl 1 rfl ?_
              refine KIload_n C dX6_setCapacity_96 rfl 2 rfl ?_
              refine KPutI (S := T) (ty := .int) (v := x) C ul_X6 rfl (by decide) 4 4 rfl (by decide) rfl u_fl_RX6_7 tyX6 tyX6_ok nmX6 (hT.at0 80 7) ⟨by omega, by omega⟩ (by decide +kernel) rfl rfl rfl dX6_setCapacity_97 (fun _ h => h) ?_
              refine KIload_n C dX6_setCapacity_100 rfl 0 rfl ?_
              refine KIret C rfl rfl (by
                exact hlift _ _ ⟨0, zC (sgM T q), ((zA (sgM T q), zN (sgM T q), zG (sgM T q), x), (sgM T q).2), (by unfold oCap; rw [hnn, if_neg (by omega)]; exact if_neg (by omega)), rfl, MP.rows0 (fun a ha => (up2_row _ _ _ (fun e9 => ha ⟨80, by omega, by omega, e9⟩))) ((up2_nk _ _ _ _ (by decide)).trans h00) ⟨(up2_nk _ _ _ _ (by decide)), (up2_nk _ _ _ _ (by decide)), (up2_nk _ _ _ _ (by decide)), (up2_same _ _ _ _)⟩ ⟨((up2_nk _ _ _ _ (by decide)).trans hc6), ((up2_nk _ _ _ _ (by decide)).trans hc13), (up2_nk _ _ _ _ (by decide)), rfl⟩ ⟨(up2_row _ _ _ (hT.ne 81 80)), (up2_row _ _ _ (hT.ne 82 80)), (up2_row _ _ _ (hT.ne 83 80)), (up2_row _ _ _ (hT.ne 84 80)), (up2_row _ _ _ (hT.ne 85 80)), (up2_row _ _ _ (hT.ne 86 80)), (up2_row _ _ _ (hT.ne 87 80))⟩⟩) (by decide) (by decide) dX6_setCapacity_101
            · refine KAload_n C dX6_setCapacity_84 rfl 0 rfl ?_
              refine KIconst C dX6_setCapacity_85 ?_
              refine KCallV (As := [.int (iI 2)]) (b := q 80) (st := []) C (ct_X6_fails l g T q 2 hT (by omega)) u_ml_RX6_94 u_im_yX6_fails u_se_yX6_fails u_in_RX6 u_co_yX6_fails hd_yX6_fails (hT.at0 80 7) (by decide) rfl rfl ⟨Nat.le_of_ble_eq_true rfl, Nat.le_of_ble_eq_true rfl⟩ ⟨Nat.le_of_ble_eq_true rfl, Nat.le_of_ble_eq_true rfl⟩ (Nat.le_of_ble_eq_true rfl) dX6_setCapacity_86 rfl (fun v86 u86 hp86 => ?_)
              obtain ⟨rfl, rfl⟩ := hp86
              refine KSt (st2 := [.int (iI 0)]) rfl ?_
              refine KRg (fun hR => ?_)
              refine KIret C rfl rfl (by
                first | exact hlift _ _ ⟨1, _, _, (by unfold oCap; exact if_pos (by omega)), rfl, MP.thr hT hCn 1⟩ | exact hlift _ _ ⟨2, _, _, (by unfold oCap; rw [hnn, if_neg (by omega)]; exact if_pos (by omega)), rfl, MP.thr hT hCn 2⟩) (by decide) (by decide) dX6_setCapacity_89
          · refine KIload_n C dX6_setCapacity_44 rfl 2 rfl ?_
            refine KIf_eq (tgt := 72) C dX6_setCapacity_45 (by decide) ⟨by omega, by omega⟩ (fun c45 => ?_) (fun c45 => ?_)
            · refine KIconst C dX6_setCapacity_72 ?_
              refine KTop (congrArg iI (show 0 = canI (sgM T q) x (n + 1) from (by first | exact canI_t ⟨by omega, Or.inl (by omega)⟩ | exact canI_t ⟨by omega, Or.inr (by omega)⟩ | exact canI_f (by omega)))) ?_
              refine KIstore_n (lv' := [(2, .int (iI (canI (sgM T q) x (n + 1)))), (0, .ref (q 80)), (1, .int (iI x)), (3, .int (iI (n : Int)))]) C dX6_setCapacity_73 rfl (by decide) rfl ?_
              refine KIinc (v := ((n + 1 : Nat) : Int)) (lv' := [(3, .int (iI ((n + 1 : Nat) : Int))), (2, .int (iI (canI (sgM T q) x (n + 1)))), (0, .ref (q 80)), (1, .int (iI x))]) C dX6_setCapacity_74 3 rfl (by omega) (by decide) rfl ?_
              refine KGoto (tgt := 36) C dX6_setCapacity_77 (by decide) ?_
              refine KLv (lv' := [(0, .ref (q 80)), (1, .int (iI x)), (2, .int (iI (canI (sgM T q) x (n + 1)))), (3, .int (iI ((n + 1 : Nat) : Int)))]) [2, 3, 1, 0] rfl ?_
              exact ih36 (n + 1) (by omega) (by omega)
            · refine KAload_n C dX6_setCapacity_48 rfl 0 rfl ?_
              refine KGetR (S := T) C ul_X6 rfl (by decide) 8 8 rfl (by decide) rfl u_fl_RX6_20 (hT.at0 80 7) (b := q 83) (hT.ptr 80 8 83) dX6_setCapacity_49 (fun _ h => h) ?_
              refine KIload_n C dX6_setCapacity_52 rfl 3 rfl ?_
              refine KIald (S := T)  (v := sI T (q 83) (n : Int)) C 40 (hT.at0 83 20) (hT.ln0 83 40) ⟨by omega, by omega⟩ (by omega) rfl dX6_setCapacity_53 ?_
              have rb4 := hR.b (q 83) (n : Int) (v := sI T (q 83) (n : Int)) rfl
              refine KIconst C dX6_setCapacity_54 ?_
              refine KIcmp_eq (tgt := 68) C dX6_setCapacity_55 (by decide) ⟨by omega, by omega⟩ ⟨by omega, by omega⟩ (fun c55 => ?_) (fun c55 => ?_)
              · refine KIconst C dX6_setCapacity_68 ?_
                refine KGoto (tgt := 73) C dX6_setCapacity_69 (by decide) ?_
                refine KTop (congrArg iI (show 1 = canI (sgM T q) x (n + 1) from (by first | exact canI_t ⟨by omega, Or.inl (by omega)⟩ | exact canI_t ⟨by omega, Or.inr (by omega)⟩ | exact canI_f (by omega)))) ?_
                refine KIstore_n (lv' := [(2, .int (iI (canI (sgM T q) x (n + 1)))), (0, .ref (q 80)), (1, .int (iI x)), (3, .int (iI (n : Int)))]) C dX6_setCapacity_73 rfl (by decide) rfl ?_
                refine KIinc (v := ((n + 1 : Nat) : Int)) (lv' := [(3, .int (iI ((n + 1 : Nat) : Int))), (2, .int (iI (canI (sgM T q) x (n + 1)))), (0, .ref (q 80)), (1, .int (iI x))]) C dX6_setCapacity_74 3 rfl (by omega) (by decide) rfl ?_
                refine KGoto (tgt := 36) C dX6_setCapacity_77 (by decide) ?_
                refine KLv (lv' := [(0, .ref (q 80)), (1, .int (iI x)), (2, .int (iI (canI (sgM T q) x (n + 1)))), (3, .int (iI ((n + 1 : Nat) : Int)))]) [2, 3, 1, 0] rfl ?_
                exact ih36 (n + 1) (by omega) (by omega)
              · refine KAload_n C dX6_setCapacity_58 rfl 0 rfl ?_
                refine KGetR (S := T) C ul_X6 rfl (by decide) 10 10 rfl (by decide) rfl u_fl_RX6_26 (hT.at0 80 7) (b := q 85) (hT.ptr 80 10 85) dX6_setCapacity_59 (fun _ h => h) ?_
                refine KIload_n C dX6_setCapacity_62 rfl 3 rfl ?_
                refine KIald (S := T)  (v := sI T (q 85) (n : Int)) C 40 (hT.at0 85 20) (hT.ln0 85 40) ⟨by omega, by omega⟩ (by omega) rfl dX6_setCapacity_63 ?_
                have rb5 := hR.b (q 85) (n : Int) (v := sI T (q 85) (n : Int)) rfl
                refine KIload_n C dX6_setCapacity_64 rfl 1 rfl ?_
                refine KIcmp_gt (tgt := 72) C dX6_setCapacity_65 (by decide) ⟨by omega, by omega⟩ ⟨by omega, by omega⟩ (fun c65 => ?_) (fun c65 => ?_)
                · refine KIconst C dX6_setCapacity_72 ?_
                  refine KTop (congrArg iI (show 0 = canI (sgM T q) x (n + 1) from (by first | exact canI_t ⟨by omega, Or.inl (by omega)⟩ | exact canI_t ⟨by omega, Or.inr (by omega)⟩ | exact canI_f (by omega)))) ?_
                  refine KIstore_n (lv' := [(2, .int (iI (canI (sgM T q) x (n + 1)))), (0, .ref (q 80)), (1, .int (iI x)), (3, .int (iI (n : Int)))]) C dX6_setCapacity_73 rfl (by decide) rfl ?_
                  refine KIinc (v := ((n + 1 : Nat) : Int)) (lv' := [(3, .int (iI ((n + 1 : Nat) : Int))), (2, .int (iI (canI (sgM T q) x (n + 1)))), (0, .ref (q 80)), (1, .int (iI x))]) C dX6_setCapacity_74 3 rfl (by omega) (by decide) rfl ?_
                  refine KGoto (tgt := 36) C dX6_setCapacity_77 (by decide) ?_
                  refine KLv (lv' := [(0, .ref (q 80)), (1, .int (iI x)), (2, .int (iI (canI (sgM T q) x (n + 1)))), (3, .int (iI ((n + 1 : Nat) : Int)))]) [2, 3, 1, 0] rfl ?_
                  exact ih36 (n + 1) (by omega) (by omega)
                · refine KIconst C dX6_setCapacity_68 ?_
                  refine KGoto (tgt := 73) C dX6_setCapacity_69 (by decide) ?_
                  refine KTop (congrArg iI (show 1 = canI (sgM T q) x (n + 1) from (by first | exact canI_t ⟨by omega, Or.inl (by omega)⟩ | exact canI_t ⟨by omega, Or.inr (by omega)⟩ | exact canI_f (by omega)))) ?_
                  refine KIstore_n (lv' := [(2, .int (iI (canI (sgM T q) x (n + 1)))), (0, .ref (q 80)), (1, .int (iI x)), (3, .int (iI (n : Int)))]) C dX6_setCapacity_73 rfl (by decide) rfl ?_
                  refine KIinc (v := ((n + 1 : Nat) : Int)) (lv' := [(3, .int (iI ((n + 1 : Nat) : Int))), (2, .int (iI (canI (sgM T q) x (n + 1)))), (0, .ref (q 80)), (1, .int (iI x))]) C dX6_setCapacity_74 3 rfl (by omega) (by decide) rfl ?_
                  refine KGoto (tgt := 36) C dX6_setCapacity_77 (by decide) ?_
                  refine KLv (lv' := [(0, .ref (q 80)), (1, .int (iI x)), (2, .int (iI (canI (sgM T q) x (n + 1)))), (3, .int (iI ((n + 1 : Nat) : Int)))]) [2, 3, 1, 0] rfl ?_
                  exact ih36 (n + 1) (by omega) (by omega)
      exact loop36 _ 0 (Nat.lt_succ_self _) (by omega)
    · refine KIconst C dX6_setCapacity_28 ?_
      refine KGoto (tgt := 33) C dX6_setCapacity_29 (by decide) ?_
      refine KTop (congrArg iI (show 1 = canI (sgM T q) x 0 from (by unfold canI; first | rw [if_pos (by omega)] | rw [if_neg (by omega)]))) ?_
      refine KIstore_n (lv' := [(2, .int (iI (canI (sgM T q) x 0))), (0, .ref (q 80)), (1, .int (iI x))]) C dX6_setCapacity_33 rfl (by decide) rfl ?_
      refine KIconst C dX6_setCapacity_34 ?_
      refine KIstore_n (lv' := [(3, .int (iI 0)), (2, .int (iI (canI (sgM T q) x 0))), (0, .ref (q 80)), (1, .int (iI x))]) C dX6_setCapacity_35 rfl (by decide) rfl ?_
      refine KLv (lv' := [(0, .ref (q 80)), (1, .int (iI x)), (2, .int (iI (canI (sgM T q) x 0))), (3, .int (iI 0))]) [2, 3, 1, 0] rfl ?_
      have loop36 : ∀ (nX : Nat) (n : Nat), zo (sgM T q) - n < nX → (n ≤ zo (sgM T q)) → Wk pX l eX (rmK 2 0 0) sX mX argsX belowX methX cX (MQ belowX (QcG g (P_X6_setCapacity S q x)) argsX sX 0 0 (ge (gB g))) g 4 0 0 36 [(0, .ref (q 80)), (1, .int (iI x)), (2, .int (iI (canI (sgM T q) x n))), (3, .int (iI (n : Int)))] [] T := by
        intro nX
        induction nX with
        | zero => intro n hm; exact absurd hm (Nat.not_lt_zero _)
        | succ nX ih36 =>
          intro n hm36 hn
          refine KRg (fun hR => ?_)
          have hcb := canI_b (sgM T q) x n
          have ez3 : zst (sgM T q) (n : Int) = sI T (q 83) (n : Int) := rfl
          have ez5 : zmn (sgM T q) (n : Int) = sI T (q 85) (n : Int) := rfl
          refine KIload_n C dX6_setCapacity_36 rfl 3 rfl ?_
          refine KAload_n C dX6_setCapacity_37 rfl 0 rfl ?_
          refine KGetI (S := T) C ul_X6 rfl (by decide) 6 6 rfl (by decide) rfl u_fl_RX6_66 (hT.at0 80 7) (v := ((zo (sgM T q) : Nat) : Int)) hc6 dX6_setCapacity_38 (fun _ h => h) ?_
          have rb6 := hR.b (q 80) 6 (v := ((zo (sgM T q) : Nat) : Int)) hc6
          refine KIcmp_ge (tgt := 80) C dX6_setCapacity_41 (by decide) ⟨by omega, by omega⟩ ⟨by omega, by omega⟩ (fun c41 => ?_) (fun c41 => ?_)
          · have hnn : zo (sgM T q) = n := by omega
            refine KIload_n C dX6_setCapacity_80 rfl 2 rfl ?_
            refine KIf_ne (tgt := 90) C dX6_setCapacity_81 (by decide) ⟨by omega, by omega⟩ (fun c81 => ?_) (fun c81 => ?_)
            · refine KAload_n C dX6_setCapacity_90 rfl 0 rfl ?_
              refine KGetI (S := T) C ul_X6 rfl (by decide) 4 4 rfl (by decide) rfl u_fl_RX6_7 (hT.at0 80 7) (v := sI T (q 80) 4) rfl dX6_setCapacity_91 (fun _ h => h) ?_
              have rb7 := hR.b (q 80) 4 (v := sI T (q 80) 4) rfl
              refine KIstore_n (lv' := [(3, .int (iI (sI T (q 80) 4))), (0, .ref (q 80)), (1, .int (iI x)), (2, .int (iI (canI (sgM T q) x n)))]) C dX6_setCapacity_94 rfl (by decide) rfl ?_
              refine KAload_n C dX6_setCapacity_95 rfl 1 rfl ?_
              refine KIload_n C dX6_setCapacity_96 rfl 2 rfl ?_
              refine KPutI (S := T) (ty := .int) (v := x) C ul_X6 rfl (by decide) 4 4 rfl (by decide) rfl u_fl_RX6_7 tyX6 tyX6_ok nmX6 (hT.at0 80 7) ⟨by omega, by omega⟩ (by decide +kernel) rfl rfl rfl dX6_setCapacity_97 (fun _ h => h) ?_
              refine KIload_n C dX6_setCapacity_100 rfl 0 rfl ?_
              refine KIret C rfl rfl (by
                exact hlift _ _ ⟨0, zC (sgM T q), ((zA (sgM T q), zN (sgM T q), zG (sgM T q), x), (sgM T q).2), (by unfold oCap; rw [hnn, if_neg (by omega)]; exact if_neg (by omega)), rfl, MP.rows0 (fun a ha => (up2_row _ _ _ (fun e9 => ha ⟨80, by omega, by omega, e9⟩))) ((up2_nk _ _ _ _ (by decide)).trans h00) ⟨(up2_nk _ _ _ _ (by decide)), (up2_nk _ _ _ _ (by decide)), (up2_nk _ _ _ _ (by decide)), (up2_same _ _ _ _)⟩ ⟨((up2_nk _ _ _ _ (by decide)).trans hc6), ((up2_nk _ _ _ _ (by decide)).trans hc13), (up2_nk _ _ _ _ (by decide)), rfl⟩ ⟨(up2_row _ _ _ (hT.ne 81 80)), (up2_row _ _ _ (hT.ne 82 80)), (up2_row _ _ _ (hT.ne 83 80)), (up2_row _ _ _ (hT.ne 84 80)), (up2_row _ _ _ (hT.ne 85 80)), (up2_row _ _ _ (hT.ne 86 80)), (up2_row _ _ _ (hT.ne 87 80))⟩⟩) (by decide) (by decide) dX6_setCapacity_101
            · refine KAload_n C dX6_setCapacity_84 rfl 0 rfl ?_
              refine KIconst C dX6_setCapacity_85 ?_
              refine KCallV (As := [.int (iI 2)]) (b := q 80) (st := []) C (ct_X6_fails l g T q 2 hT (by omega)) u_ml_RX6_94 u_im_yX6_fails u_se_yX6_fails u_in_RX6 u_co_yX6_fails hd_yX6_fails (hT.at0 80 7) (by decide) rfl rfl ⟨Nat.le_of_ble_eq_true rfl, Nat.le_of_ble_eq_true rfl⟩ ⟨Nat.le_of_ble_eq_true rfl, Nat.le_of_ble_eq_true rfl⟩ (Nat.le_of_ble_eq_true rfl) dX6_setCapacity_86 rfl (fun v86 u86 hp86 => ?_)
              obtain ⟨rfl, rfl⟩ := hp86
              refine KSt (st2 := [.int (iI 0)]) rfl ?_
              refine KRg (fun hR => ?_)
              refine KIret C rfl rfl (by
                first | exact hlift _ _ ⟨1, _, _, (by unfold oCap; exact if_pos (by omega)), rfl, MP.thr hT hCn 1⟩ | exact hlift _ _ ⟨2, _, _, (by unfold oCap; rw [hnn, if_neg (by omega)]; exact if_pos (by omega)), rfl, MP.thr hT hCn 2⟩) (by decide) (by decide) dX6_setCapacity_89
          · refine KIload_n C dX6_setCapacity_44 rfl 2 rfl ?_
            refine KIf_eq (tgt := 72) C dX6_setCapacity_45 (by decide) ⟨by omega, by omega⟩ (fun c45 => ?_) (fun c45 => ?_)
            · refine KIconst C dX6_setCapacity_72 ?_
              refine KTop (congrArg iI (show 0 = canI (sgM T q) x (n + 1) from (by first | exact canI_t ⟨by omega, Or.inl (by omega)⟩ | exact canI_t ⟨by omega, Or.inr (by omega)⟩ | exact canI_f (by omega)))) ?_
              refine KIstore_n (lv' := [(2, .int (iI (canI (sgM T q) x (n + 1)))), (0, .ref (q 80)), (1, .int (iI x)), (3, .int (iI (n : Int)))]) C dX6_setCapacity_73 rfl (by decide) rfl ?_
              refine KIinc (v := ((n + 1 : Nat) : Int)) (lv' := [(3, .int (iI ((n + 1 : Nat) : Int))), (2, .int (iI (canI (sgM T q) x (n + 1)))), (0, .ref (q 80)), (1, .int (iI x))]) C dX6_setCapacity_74 3 rfl (by omega) (by decide) rfl ?_
              refine KGoto (tgt := 36) C dX6_setCapacity_77 (by decide) ?_
              refine KLv (lv' := [(0, .ref (q 80)), (1, .int (iI x)), (2, .int (iI (canI (sgM T q) x (n + 1)))), (3, .int (iI ((n + 1 : Nat) : Int)))]) [2, 3, 1, 0] rfl ?_
              exact ih36 (n + 1) (by omega) (by omega)
            · refine KAload_n C dX6_setCapacity_48 rfl 0 rfl ?_
              refine KGetR (S := T) C ul_X6 rfl (by decide) 8 8 rfl (by decide) rfl u_fl_RX6_20 (hT.at0 80 7) (b := q 83) (hT.ptr 80 8 83) dX6_setCapacity_49 (fun _ h => h) ?_
              refine KIload_n C dX6_setCapacity_52 rfl 3 rfl ?_
              refine KIald (S := T)  (v := sI T (q 83) (n : Int)) C 40 (hT.at0 83 20) (hT.ln0 83 40) ⟨by omega, by omega⟩ (by omega) rfl dX6_setCapacity_53 ?_
              have rb8 := hR.b (q 83) (n : Int) (v := sI T (q 83) (n : Int)) rfl
              refine KIconst C dX6_setCapacity_54 ?_
              refine KIcmp_eq (tgt := 68) C dX6_setCapacity_55 (by decide) ⟨by omega, by omega⟩ ⟨by omega, by omega⟩ (fun c55 => ?_) (fun c55 => ?_)
              · refine KIconst C dX6_setCapacity_68 ?_
                refine KGoto (tgt := 73) C dX6_setCapacity_69 (by decide) ?_
                refine KTop (congrArg iI (show 1 = canI (sgM T q) x (n + 1) from (by first | exact canI_t ⟨by omega, Or.inl (by omega)⟩ | exact canI_t ⟨by omega, Or.inr (by omega)⟩ | exact canI_f (by omega)))) ?_
                refine KIstore_n (lv' := [(2, .int (iI (canI (sgM T q) x (n + 1)))), (0, .ref (q 80)), (1, .int (iI x)), (3, .int (iI (n : Int)))]) C dX6_setCapacity_73 rfl (by decide) rfl ?_
                refine KIinc (v := ((n + 1 : Nat) : Int)) (lv' := [(3, .int (iI ((n + 1 : Nat) : Int))), (2, .int (iI (canI (sgM T q) x (n + 1)))), (0, .ref (q 80)), (1, .int (iI x))]) C dX6_setCapacity_74 3 rfl (by omega) (by decide) rfl ?_
                refine KGoto (tgt := 36) C dX6_setCapacity_77 (by decide) ?_
                refine KLv (lv' := [(0, .ref (q 80)), (1, .int (iI x)), (2, .int (iI (canI (sgM T q) x (n + 1)))), (3, .int (iI ((n + 1 : Nat) : Int)))]) [2, 3, 1, 0] rfl ?_
                exact ih36 (n + 1) (by omega) (by omega)
              · refine KAload_n C dX6_setCapacity_58 rfl 0 rfl ?_
                refine KGetR (S := T) C ul_X6 rfl (by decide) 10 10 rfl (by decide) rfl u_fl_RX6_26 (hT.at0 80 7) (b := q 85) (hT.ptr 80 10 85) dX6_setCapacity_59 (fun _ h => h) ?_
                refine KIload_n C dX6_setCapacity_62 rfl 3 rfl ?_
                refine KIald (S := T)  (v := sI T (q 85) (n : Int)) C 40 (hT.at0 85 20) (hT.ln0 85 40) ⟨by omega, by omega⟩ (by omega) rfl dX6_setCapacity_63 ?_
                have rb9 := hR.b (q 85) (n : Int) (v := sI T (q 85) (n : Int)) rfl
                refine KIload_n C dX6_setCapacity_64 rfl 1 rfl ?_
                refine KIcmp_gt (tgt := 72) C dX6_setCapacity_65 (by decide) ⟨by omega, by omega⟩ ⟨by omega, by omega⟩ (fun c65 => ?_) (fun c65 => ?_)
                · refine KIconst C dX6_setCapacity_72 ?_
                  refine KTop (congrArg iI (show 0 = canI (sgM T q) x (n + 1) from (by first | exact canI_t ⟨by omega, Or.inl (by omega)⟩ | exact canI_t ⟨by omega, Or.inr (by omega)⟩ | exact canI_f (by omega)))) ?_
                  refine KIstore_n (lv' := [(2, .int (iI (canI (sgM T q) x (n + 1)))), (0, .ref (q 80)), (1, .int (iI x)), (3, .int (iI (n : Int)))]) C dX6_setCapacity_73 rfl (by decide) rfl ?_
                  refine KIinc (v := ((n + 1 : Nat) : Int)) (lv' := [(3, .int (iI ((n + 1 : Nat) : Int))), (2, .int (iI (canI (sgM T q) x (n + 1)))), (0, .ref (q 80)), (1, .int (iI x))]) C dX6_setCapacity_74 3 rfl (by omega) (by decide) rfl ?_
                  refine KGoto (tgt := 36) C dX6_setCapacity_77 (by decide) ?_
                  refine KLv (lv' := [(0, .ref (q 80)), (1, .int (iI x)), (2, .int (iI (canI (sgM T q) x (n + 1)))), (3, .int (iI ((n + 1 : Nat) : Int)))]) [2, 3, 1, 0] rfl ?_
                  exact ih36 (n + 1) (by omega) (by omega)
                · refine KIconst C dX6_setCapacity_68 ?_
                  refine KGoto (tgt := 73) C dX6_setCapacity_69 (by decide) ?_
                  refine KTop (congrArg iI (show 1 = canI (sgM T q) x (n + 1) from (by first | exact canI_t ⟨by omega, Or.inl (by omega)⟩ | exact canI_t ⟨by omega, Or.inr (by omega)⟩ | exact canI_f (by omega)))) ?_
                  refine KIstore_n (lv' := [(2, .int (iI (canI (sgM T q) x (n + 1)))), (0, .ref (q 80)), (1, .int (iI x)), (3, .int (iI (n : Int)))]) C dX6_setCapacity_73 rfl (by decide) rfl ?_
                  refine KIinc (v := ((n + 1 : Nat) : Int)) (lv' := [(3, .int (iI ((n + 1 : Nat) : Int))), (2, .int (iI (canI (sgM T q) x (n + 1)))), (0, .ref (q 80)), (1, .int (iI x))]) C dX6_setCapacity_74 3 rfl (by omega) (by decide) rfl ?_
                  refine KGoto (tgt := 36) C dX6_setCapacity_77 (by decide) ?_
                  refine KLv (lv' := [(0, .ref (q 80)), (1, .int (iI x)), (2, .int (iI (canI (sgM T q) x (n + 1)))), (3, .int (iI ((n + 1 : Nat) : Int)))]) [2, 3, 1, 0] rfl ?_
                  exact ih36 (n + 1) (by omega) (by omega)
      exact loop36 _ 0 (Nat.lt_succ_self _) (by omega)
  · refine KSt (st2 := [.int (iI 0)]) rfl ?_
    refine KIf_ne (tgt := 21) C dX6_setCapacity_12 (by decide) ⟨by omega, by omega⟩ (fun h => absurd h (by decide)) (fun _ => ?_)
    refine KAload_n C dX6_setCapacity_15 rfl 0 rfl ?_
    refine KIconst C dX6_setCapacity_16 ?_
    refine KCallV (As := [.int (iI 1)]) (b := q 80) (st := []) C (ct_X6_fails l g T q 1 hT (by omega)) u_ml_RX6_94 u_im_yX6_fails u_se_yX6_fails u_in_RX6 u_co_yX6_fails hd_yX6_fails (hT.at0 80 7) (by decide) rfl rfl ⟨Nat.le_of_ble_eq_true rfl, Nat.le_of_ble_eq_true rfl⟩ ⟨Nat.le_of_ble_eq_true rfl, Nat.le_of_ble_eq_true rfl⟩ (Nat.le_of_ble_eq_true rfl) dX6_setCapacity_17 rfl (fun v17 u17 hp17 => ?_)
    obtain ⟨rfl, rfl⟩ := hp17
    refine KSt (st2 := [.int (iI 0)]) rfl ?_
    refine KRg (fun hR => ?_)
    refine KIret C rfl rfl (by
      first | exact hlift _ _ ⟨1, _, _, (by unfold oCap; exact if_pos (by omega)), rfl, MP.thr hT hCn 1⟩ | exact hlift _ _ ⟨2, _, _, (by unfold oCap; rw [hnn, if_neg (by omega)]; exact if_pos (by omega)), rfl, MP.thr hT hCn 2⟩) (by decide) (by decide) dX6_setCapacity_20
def P_X6_lengthOf (S : Sto) (q : Nat → Nat) (b : Int) : Option Value → Sto → Prop := fun v u => ∃ c r z', oLo (sgM S q) b = (c, r, z') ∧ v = some (.int (iI r)) ∧ MP S q u c z'
set_option maxRecDepth 100000 in
set_option maxHeartbeats 4000000 in
theorem ct_X6_lengthOf (l : Launch) (g : GG) (S : Sto) (q : Nat → Nat) (b : Int) (hT : Top S q) (hW : Wf (sgM S q)) (hCn : Cn S q) (hib : inR b) : MetS l g yX6_lengthOf cX6_lengthOf 2 (some FieldType.int) 6 0 0 [.ref (q 80), .int (iI b)] S (P_X6_lengthOf S q b) := by
  refine MetS.of (own := RX6) (lv := [(0, .ref (q 80)), (1, .int (iI b))]) (by decide) rfl (Nat.le_of_ble_eq_true rfl) rfl ?_
  intro pX eX sX mX argsX belowX methX cX C hin
  refine KRg (fun hR => ?_)
  obtain ⟨b1, b2⟩ := id hib
  refine KAload_n C dX6_lengthOf_0 rfl 0 rfl ?_
  refine KIconst C dX6_lengthOf_1 ?_
  obtain ⟨T, hTT, hT9, hW, hCn, h00, hz, hM⟩ := MP.start hT hW hCn
  refine KPutI (ty := .int) (v := 0) C ul_X6 rfl (by decide) 0 0 rfl (by decide) rfl u_fl_RX6_59 tyX6 tyX6_ok nmX6 (hT.at0 80 7) ⟨by omega, by omega⟩ (by decide +kernel) rfl rfl rfl dX6_lengthOf_2 (fun _ h => h) ?_
  refine KSto (S2 := T) hTT.symm ?_
  have hT := hT9
  have hlift : ∀ v u, P_X6_lengthOf T q b v u → P_X6_lengthOf S q b v u := fun v u ⟨c, r, z', h1, h2, h3⟩ => ⟨c, r, z', hz ▸ h1, h2, hM.trans h3⟩
  refine KRg (fun hR => ?_)
  obtain ⟨hc6, hc13⟩ := id hCn
  have hCm : CfM T q := hW.cf
  obtain ⟨hA1, hA2, hN1, hN2, hG1, hG2⟩ := id hCm
  obtain ⟨ho40, hbo⟩ := hW.2.1
  have ezA : zA (sgM T q) = sI T (q 80) 1 := rfl
  have ezN : zN (sgM T q) = sI T (q 80) 2 := rfl
  refine KAload_n C dX6_lengthOf_5 rfl 0 rfl ?_
  refine KIload_n C dX6_lengthOf_6 rfl 1 rfl ?_
  refine KCallV (As := [.int (iI b)]) (b := q 80) (st := []) C (ct_X6_isBatch l g T q b hT (⟨by omega, by omega⟩) (by omega)) u_ml_RX6_130 u_im_yX6_isBatch u_se_yX6_isBatch u_in_RX6 u_co_yX6_isBatch hd_yX6_isBatch (hT.at0 80 7) (by decide) rfl rfl ⟨Nat.le_of_ble_eq_true rfl, Nat.le_of_ble_eq_true rfl⟩ ⟨Nat.le_of_ble_eq_true rfl, Nat.le_of_ble_eq_true rfl⟩ (Nat.le_of_ble_eq_true rfl) dX6_lengthOf_7 rfl (fun v7 u7 hp7 => ?_)
  obtain ⟨⟨b7, rfl⟩ | ⟨b7, rfl⟩, rfl⟩ := hp7
  · refine KSt (st2 := [.int (iI 1)]) rfl ?_
    have hba : isBa (sgM T q) b := ⟨by omega, by omega⟩
    have hokb := hW.okBI (b := b) ⟨by omega, by omega⟩
    have hcb9 := hokb.2.1
    refine KIf_eq (tgt := 25) C dX6_lengthOf_10 (by decide) ⟨by omega, by omega⟩ (fun h => absurd h (by decide)) (fun _ => ?_)
    refine KAload_n C dX6_lengthOf_13 rfl 0 rfl ?_
    refine KAload_n C dX6_lengthOf_14 rfl 0 rfl ?_
    refine KIload_n C dX6_lengthOf_15 rfl 1 rfl ?_
    refine KCallV (As := [.int (iI b)]) (b := q 80) (st := [.ref (q 80)]) C (ct_X6_productsOf l g T q b hT hW.wl hCn (by omega)) u_ml_RX6_120 u_im_yX6_productsOf u_se_yX6_productsOf u_in_RX6 u_co_yX6_productsOf hd_yX6_productsOf (hT.at0 80 7) (by decide) rfl rfl ⟨Nat.le_of_ble_eq_true rfl, Nat.le_of_ble_eq_true rfl⟩ ⟨Nat.le_of_ble_eq_true rfl, Nat.le_of_ble_eq_true rfl⟩ (Nat.le_of_ble_eq_true rfl) dX6_lengthOf_16 rfl (fun v16 u16 hp16 => ?_)
    obtain ⟨rfl, rfl⟩ := hp16
    refine KSt (st2 := [.int (iI ((zpd (sgM T q) b : Nat) : Int)), .ref (q 80)]) rfl ?_
    refine KRg (fun hR => ?_)
    refine KCallV (As := [.int (iI ((zpd (sgM T q) b : Nat) : Int))]) (b := q 80) (st := []) C (ct_X6_length l g T q (zpd (sgM T q) b) hT hCm hokb) u_ml_RX6_114 u_im_yX6_length u_se_yX6_length u_in_RX6 u_co_yX6_length hd_yX6_length (hT.at0 80 7) (by decide) rfl rfl ⟨Nat.le_of_ble_eq_true rfl, Nat.le_of_ble_eq_true rfl⟩ ⟨Nat.le_of_ble_eq_true rfl, Nat.le_of_ble_eq_true rfl⟩ (Nat.le_of_ble_eq_true rfl) dX6_lengthOf_19 rfl (fun v19 u19 hp19 => ?_)
    obtain ⟨rfl, f19, rfl, hK19, hs19⟩ := hp19
    refine KSt (st2 := [.int (iI (tour (sI T (q 80) 2) (sI T (q 80) 3) (sI T (q 81)) (zpd (sgM T q) b)))]) rfl ?_
    refine KRg (fun hR => ?_)
    refine KGoto (tgt := 30) C dX6_lengthOf_22 (by decide) ?_
    refine KIret C rfl rfl (by
      first | exact hlift _ _ ⟨1, _, _, (by unfold oLo; exact if_neg hba), rfl, MP.thr hT hCn 1⟩ | exact hlift _ _ ⟨0, zto (sgM T q) (zpd (sgM T q) b), _, (by unfold oLo; exact if_pos hba), rfl, MP.kept0 hT hCn h00 hK19⟩) (by decide) (by decide) dX6_lengthOf_30
  · refine KSt (st2 := [.int (iI 0)]) rfl ?_
    have hba : ¬ isBa (sgM T q) b := fun h9 => b7 ⟨h9.1, by have := h9.2; omega⟩
    refine KIf_eq (tgt := 25) C dX6_lengthOf_10 (by decide) ⟨by omega, by omega⟩ (fun _ => ?_) (fun h => absurd h (by decide))
    refine KAload_n C dX6_lengthOf_25 rfl 0 rfl ?_
    refine KIconst C dX6_lengthOf_26 ?_
    refine KCallV (As := [.int (iI 1)]) (b := q 80) (st := []) C (ct_X6_fails l g T q 1 hT (by omega)) u_ml_RX6_94 u_im_yX6_fails u_se_yX6_fails u_in_RX6 u_co_yX6_fails hd_yX6_fails (hT.at0 80 7) (by decide) rfl rfl ⟨Nat.le_of_ble_eq_true rfl, Nat.le_of_ble_eq_true rfl⟩ ⟨Nat.le_of_ble_eq_true rfl, Nat.le_of_ble_eq_true rfl⟩ (Nat.le_of_ble_eq_true rfl) dX6_lengthOf_27 rfl (fun v27 u27 hp27 => ?_)
    obtain ⟨rfl, rfl⟩ := hp27
    refine KSt (st2 := [.int (iI 0)]) rfl ?_
    refine KRg (fun hR => ?_)
    refine KIret C rfl rfl (by
      first | exact hlift _ _ ⟨1, _, _, (by unfold oLo; exact if_neg hba), rfl, MP.thr hT hCn 1⟩ | exact hlift _ _ ⟨0, zto (sgM T q) (zpd (sgM T q) b), _, (by unfold oLo; exact if_pos hba), rfl, MP.kept0 hT hCn h00 hK19⟩) (by decide) (by decide) dX6_lengthOf_30
def P_X6_lengthByTrying (S : Sto) (q : Nat → Nat) (b : Int) : Option Value → Sto → Prop := fun v u => ∃ c r z', oLt (sgM S q) b = (c, r, z') ∧ v = some (.int (iI r)) ∧ MP S q u c z'
set_option maxRecDepth 100000 in
set_option maxHeartbeats 4000000 in
theorem ct_X6_lengthByTrying (l : Launch) (g : GG) (S : Sto) (q : Nat → Nat) (b : Int) (hT : Top S q) (hW : Wf (sgM S q)) (hCn : Cn S q) (hib : inR b) : MetS l g yX6_lengthByTrying cX6_lengthByTrying 3 (some FieldType.int) 6 0 0 [.ref (q 80), .int (iI b)] S (P_X6_lengthByTrying S q b) := by
  refine MetS.of (own := RX6) (lv := [(0, .ref (q 80)), (1, .int (iI b))]) (by decide) rfl (Nat.le_of_ble_eq_true rfl) rfl ?_
  intro pX eX sX mX argsX belowX methX cX C hin
  refine KRg (fun hR => ?_)
  obtain ⟨b1, b2⟩ := id hib
  refine KAload_n C dX6_lengthByTrying_0 rfl 0 rfl ?_
  refine KIconst C dX6_lengthByTrying_1 ?_
  obtain ⟨T, hTT, hT9, hW, hCn, h00, hz, hM⟩ := MP.start hT hW hCn
  refine KPutI (ty := .int) (v := 0) C ul_X6 rfl (by decide) 0 0 rfl (by decide) rfl u_fl_RX6_59 tyX6 tyX6_ok nmX6 (hT.at0 80 7) ⟨by omega, by omega⟩ (by decide +kernel) rfl rfl rfl dX6_lengthByTrying_2 (fun _ h => h) ?_
  refine KSto (S2 := T) hTT.symm ?_
  have hT := hT9
  have hlift : ∀ v u, P_X6_lengthByTrying T q b v u → P_X6_lengthByTrying S q b v u := fun v u ⟨c, r, z', h1, h2, h3⟩ => ⟨c, r, z', hz ▸ h1, h2, hM.trans h3⟩
  refine KRg (fun hR => ?_)
  obtain ⟨hc6, hc13⟩ := id hCn
  have hCm : CfM T q := hW.cf
  obtain ⟨hA1, hA2, hN1, hN2, hG1, hG2⟩ := id hCm
  obtain ⟨ho40, hbo⟩ := hW.2.1
  have ezA : zA (sgM T q) = sI T (q 80) 1 := rfl
  have ezN : zN (sgM T q) = sI T (q 80) 2 := rfl
  refine KAload_n C dX6_lengthByTrying_5 rfl 0 rfl ?_
  refine KIload_n C dX6_lengthByTrying_6 rfl 1 rfl ?_
  refine KCallV (As := [.int (iI b)]) (b := q 80) (st := []) C (ct_X6_isBatch l g T q b hT (⟨by omega, by omega⟩) (by omega)) u_ml_RX6_130 u_im_yX6_isBatch u_se_yX6_isBatch u_in_RX6 u_co_yX6_isBatch hd_yX6_isBatch (hT.at0 80 7) (by decide) rfl rfl ⟨Nat.le_of_ble_eq_true rfl, Nat.le_of_ble_eq_true rfl⟩ ⟨Nat.le_of_ble_eq_true rfl, Nat.le_of_ble_eq_true rfl⟩ (Nat.le_of_ble_eq_true rfl) dX6_lengthByTrying_7 rfl (fun v7 u7 hp7 => ?_)
  obtain ⟨⟨b7, rfl⟩ | ⟨b7, rfl⟩, rfl⟩ := hp7
  · refine KSt (st2 := [.int (iI 1)]) rfl ?_
    have hba : isBa (sgM T q) b := ⟨by omega, by omega⟩
    have hokb := hW.okBI (b := b) ⟨by omega, by omega⟩
    have hcb9 := hokb.2.1
    refine KIf_ne (tgt := 19) C dX6_lengthByTrying_10 (by decide) ⟨by omega, by omega⟩ (fun _ => ?_) (fun h => absurd h (by decide))
    refine KAload_n C dX6_lengthByTrying_19 rfl 0 rfl ?_
    refine KAload_n C dX6_lengthByTrying_20 rfl 0 rfl ?_
    refine KIload_n C dX6_lengthByTrying_21 rfl 1 rfl ?_
    refine KCallV (As := [.int (iI b)]) (b := q 80) (st := [.ref (q 80)]) C (ct_X6_productsOf l g T q b hT hW.wl hCn (by omega)) u_ml_RX6_120 u_im_yX6_productsOf u_se_yX6_productsOf u_in_RX6 u_co_yX6_productsOf hd_yX6_productsOf (hT.at0 80 7) (by decide) rfl rfl ⟨Nat.le_of_ble_eq_true rfl, Nat.le_of_ble_eq_true rfl⟩ ⟨Nat.le_of_ble_eq_true rfl, Nat.le_of_ble_eq_true rfl⟩ (Nat.le_of_ble_eq_true rfl) dX6_lengthByTrying_22 rfl (fun v22 u22 hp22 => ?_)
    obtain ⟨rfl, rfl⟩ := hp22
    refine KSt (st2 := [.int (iI ((zpd (sgM T q) b : Nat) : Int)), .ref (q 80)]) rfl ?_
    refine KRg (fun hR => ?_)
    refine KCallV (As := [.int (iI ((zpd (sgM T q) b : Nat) : Int))]) (b := q 80) (st := []) C (ct_X6_length l g T q (zpd (sgM T q) b) hT hCm hokb) u_ml_RX6_114 u_im_yX6_length u_se_yX6_length u_in_RX6 u_co_yX6_length hd_yX6_length (hT.at0 80 7) (by decide) rfl rfl ⟨Nat.le_of_ble_eq_true rfl, Nat.le_of_ble_eq_true rfl⟩ ⟨Nat.le_of_ble_eq_true rfl, Nat.le_of_ble_eq_true rfl⟩ (Nat.le_of_ble_eq_true rfl) dX6_lengthByTrying_25 rfl (fun v25 u25 hp25 => ?_)
    obtain ⟨rfl, f25, rfl, hK25, hs25⟩ := hp25
    refine KSt (st2 := [.int (iI (tour (sI T (q 80) 2) (sI T (q 80) 3) (sI T (q 81)) (zpd (sgM T q) b)))]) rfl ?_
    refine KRg (fun hR => ?_)
    refine KIstore_n (lv' := [(2, .int (iI (tour (sI T (q 80) 2) (sI T (q 80) 3) (sI T (q 81)) (zpd (sgM T q) b)))), (0, .ref (q 80)), (1, .int (iI b))]) C dX6_lengthByTrying_28 rfl (by decide) rfl ?_
    refine KAload_n C dX6_lengthByTrying_29 rfl 1 rfl ?_
    refine KGetI (S := wI T f25) C ul_X6 rfl (by decide) 16 16 rfl (by decide) rfl u_fl_RX6_76 (hT.at0 80 7) (v := ((cntb (zpd (sgM T q) b) 20 : Nat) : Int)) (hs25.trans (congrArg (fun x : Nat => (x : Int)) (sl_len _ _ _))) dX6_lengthByTrying_30 (fun _ h => h) ?_
    have rb1 := hR.b (q 80) 16 (v := ((cntb (zpd (sgM T q) b) 20 : Nat) : Int)) (hs25.trans (congrArg (fun x : Nat => (x : Int)) (sl_len _ _ _)))
    refine KBipush C dX6_lengthByTrying_33 (by decide) ?_
    refine KIcmp_le (tgt := 46) C dX6_lengthByTrying_35 (by decide) ⟨by omega, by omega⟩ ⟨by omega, by omega⟩ (fun c35 => ?_) (fun c35 => ?_)
    · refine KIload_n C dX6_lengthByTrying_46 rfl 0 rfl ?_
      refine KIret C rfl rfl (by
        first | exact hlift _ _ ⟨2, _, _, (by unfold oLt; rw [if_pos hba]; exact if_pos (by omega)), rfl, MP.thrk hT hCn hK25 2⟩ | exact hlift _ _ ⟨0, zto (sgM T q) (zpd (sgM T q) b), _, (by unfold oLt; rw [if_pos hba]; exact if_neg (by omega)), rfl, MP.kept0 hT hCn h00 hK25⟩) (by decide) (by decide) dX6_lengthByTrying_47
    · refine KAload_n C dX6_lengthByTrying_38 rfl 1 rfl ?_
      refine KIconst C dX6_lengthByTrying_39 ?_
      refine KCallV (As := [.int (iI 2)]) (b := q 80) (st := []) C (ct_X6_fails l g (wI T f25) q 2 hT (by omega)) u_ml_RX6_94 u_im_yX6_fails u_se_yX6_fails u_in_RX6 u_co_yX6_fails hd_yX6_fails (hT.at0 80 7) (by decide) rfl rfl ⟨Nat.le_of_ble_eq_true rfl, Nat.le_of_ble_eq_true rfl⟩ ⟨Nat.le_of_ble_eq_true rfl, Nat.le_of_ble_eq_true rfl⟩ (Nat.le_of_ble_eq_true rfl) dX6_lengthByTrying_40 rfl (fun v40 u40 hp40 => ?_)
      obtain ⟨rfl, rfl⟩ := hp40
      refine KSt (st2 := [.int (iI 0)]) rfl ?_
      refine KRg (fun hR => ?_)
      refine KGoto (tgt := 47) C dX6_lengthByTrying_43 (by decide) ?_
      refine KIret C rfl rfl (by
        first | exact hlift _ _ ⟨2, _, _, (by unfold oLt; rw [if_pos hba]; exact if_pos (by omega)), rfl, MP.thrk hT hCn hK25 2⟩ | exact hlift _ _ ⟨0, zto (sgM T q) (zpd (sgM T q) b), _, (by unfold oLt; rw [if_pos hba]; exact if_neg (by omega)), rfl, MP.kept0 hT hCn h00 hK25⟩) (by decide) (by decide) dX6_lengthByTrying_47
  · refine KSt (st2 := [.int (iI 0)]) rfl ?_
    have hba : ¬ isBa (sgM T q) b := fun h9 => b7 ⟨h9.1, by have := h9.2; omega⟩
    refine KIf_ne (tgt := 19) C dX6_lengthByTrying_10 (by decide) ⟨by omega, by omega⟩ (fun h => absurd h (by decide)) (fun _ => ?_)
    refine KAload_n C dX6_lengthByTrying_13 rfl 0 rfl ?_
    refine KIconst C dX6_lengthByTrying_14 ?_
    refine KCallV (As := [.int (iI 1)]) (b := q 80) (st := []) C (ct_X6_fails l g T q 1 hT (by omega)) u_ml_RX6_94 u_im_yX6_fails u_se_yX6_fails u_in_RX6 u_co_yX6_fails hd_yX6_fails (hT.at0 80 7) (by decide) rfl rfl ⟨Nat.le_of_ble_eq_true rfl, Nat.le_of_ble_eq_true rfl⟩ ⟨Nat.le_of_ble_eq_true rfl, Nat.le_of_ble_eq_true rfl⟩ (Nat.le_of_ble_eq_true rfl) dX6_lengthByTrying_15 rfl (fun v15 u15 hp15 => ?_)
    obtain ⟨rfl, rfl⟩ := hp15
    refine KSt (st2 := [.int (iI 0)]) rfl ?_
    refine KRg (fun hR => ?_)
    refine KIret C rfl rfl (by
      first | exact hlift _ _ ⟨1, _, _, (by unfold oLt; exact if_neg hba), rfl, MP.thr hT hCn 1⟩ | exact hlift _ _ ⟨0, _, _, (by unfold oLt; exact if_pos hba), rfl, MP.refl0 hCn h00⟩) (by decide) (by decide) dX6_lengthByTrying_18
def P_X6_stops (S : Sto) (q : Nat → Nat) (b : Int) : Option Value → Sto → Prop := fun v u => ∃ c r z', oSs (sgM S q) b = (c, r, z') ∧ v = some (.int (iI r)) ∧ MP S q u c z'
set_option maxRecDepth 100000 in
set_option maxHeartbeats 4000000 in
theorem ct_X6_stops (l : Launch) (g : GG) (S : Sto) (q : Nat → Nat) (b : Int) (hT : Top S q) (hW : Wf (sgM S q)) (hCn : Cn S q) (hib : inR b) : MetS l g yX6_stops cX6_stops 2 (some FieldType.int) 5 0 0 [.ref (q 80), .int (iI b)] S (P_X6_stops S q b) := by
  refine MetS.of (own := RX6) (lv := [(0, .ref (q 80)), (1, .int (iI b))]) (by decide) rfl (Nat.le_of_ble_eq_true rfl) rfl ?_
  intro pX eX sX mX argsX belowX methX cX C hin
  refine KRg (fun hR => ?_)
  obtain ⟨b1, b2⟩ := id hib
  refine KAload_n C dX6_stops_0 rfl 0 rfl ?_
  refine KIconst C dX6_stops_1 ?_
  obtain ⟨T, hTT, hT9, hW, hCn, h00, hz, hM⟩ := MP.start hT hW hCn
  refine KPutI (ty := .int) (v := 0) C ul_X6 rfl (by decide) 0 0 rfl (by decide) rfl u_fl_RX6_59 tyX6 tyX6_ok nmX6 (hT.at0 80 7) ⟨by omega, by omega⟩ (by decide +kernel) rfl rfl rfl dX6_stops_2 (fun _ h => h) ?_
  refine KSto (S2 := T) hTT.symm ?_
  have hT := hT9
  have hlift : ∀ v u, P_X6_stops T q b v u → P_X6_stops S q b v u := fun v u ⟨c, r, z', h1, h2, h3⟩ => ⟨c, r, z', hz ▸ h1, h2, hM.trans h3⟩
  refine KRg (fun hR => ?_)
  obtain ⟨hc6, hc13⟩ := id hCn
  have hCm : CfM T q := hW.cf
  obtain ⟨hA1, hA2, hN1, hN2, hG1, hG2⟩ := id hCm
  obtain ⟨ho40, hbo⟩ := hW.2.1
  have ezA : zA (sgM T q) = sI T (q 80) 1 := rfl
  have ezN : zN (sgM T q) = sI T (q 80) 2 := rfl
  refine KAload_n C dX6_stops_5 rfl 0 rfl ?_
  refine KIload_n C dX6_stops_6 rfl 1 rfl ?_
  refine KCallV (As := [.int (iI b)]) (b := q 80) (st := []) C (ct_X6_isBatch l g T q b hT (⟨by omega, by omega⟩) (by omega)) u_ml_RX6_130 u_im_yX6_isBatch u_se_yX6_isBatch u_in_RX6 u_co_yX6_isBatch hd_yX6_isBatch (hT.at0 80 7) (by decide) rfl rfl ⟨Nat.le_of_ble_eq_true rfl, Nat.le_of_ble_eq_true rfl⟩ ⟨Nat.le_of_ble_eq_true rfl, Nat.le_of_ble_eq_true rfl⟩ (Nat.le_of_ble_eq_true rfl) dX6_stops_7 rfl (fun v7 u7 hp7 => ?_)
  obtain ⟨⟨b7, rfl⟩ | ⟨b7, rfl⟩, rfl⟩ := hp7
  · refine KSt (st2 := [.int (iI 1)]) rfl ?_
    have hba : isBa (sgM T q) b := ⟨by omega, by omega⟩
    have hokb := hW.okBI (b := b) ⟨by omega, by omega⟩
    have hcb9 := hokb.2.1
    refine KIf_ne (tgt := 19) C dX6_stops_10 (by decide) ⟨by omega, by omega⟩ (fun _ => ?_) (fun h => absurd h (by decide))
    refine KAload_n C dX6_stops_19 rfl 0 rfl ?_
    refine KAload_n C dX6_stops_20 rfl 0 rfl ?_
    refine KIload_n C dX6_stops_21 rfl 1 rfl ?_
    refine KCallV (As := [.int (iI b)]) (b := q 80) (st := [.ref (q 80)]) C (ct_X6_productsOf l g T q b hT hW.wl hCn (by omega)) u_ml_RX6_120 u_im_yX6_productsOf u_se_yX6_productsOf u_in_RX6 u_co_yX6_productsOf hd_yX6_productsOf (hT.at0 80 7) (by decide) rfl rfl ⟨Nat.le_of_ble_eq_true rfl, Nat.le_of_ble_eq_true rfl⟩ ⟨Nat.le_of_ble_eq_true rfl, Nat.le_of_ble_eq_true rfl⟩ (Nat.le_of_ble_eq_true rfl) dX6_stops_22 rfl (fun v22 u22 hp22 => ?_)
    obtain ⟨rfl, rfl⟩ := hp22
    refine KSt (st2 := [.int (iI ((zpd (sgM T q) b : Nat) : Int)), .ref (q 80)]) rfl ?_
    refine KRg (fun hR => ?_)
    refine KCallV (As := [.int (iI ((zpd (sgM T q) b : Nat) : Int))]) (b := q 80) (st := []) C (ct_X6_layRoute l g T q (zpd (sgM T q) b) hT hCm hokb) u_ml_RX6_86 u_im_yX6_layRoute u_se_yX6_layRoute u_in_RX6 u_co_yX6_layRoute hd_yX6_layRoute (hT.at0 80 7) (by decide) rfl rfl ⟨Nat.le_of_ble_eq_true rfl, Nat.le_of_ble_eq_true rfl⟩ ⟨Nat.le_of_ble_eq_true rfl, Nat.le_of_ble_eq_true rfl⟩ (Nat.le_of_ble_eq_true rfl) dX6_stops_25 rfl (fun v25 u25 hp25 => ?_)
    obtain ⟨rfl, f25, rfl, hK25, hL25, hOn25⟩ := hp25
    refine KSt (st2 := []) rfl ?_
    refine KRg (fun hR => ?_)
    refine KAload_n C dX6_stops_28 rfl 0 rfl ?_
    refine KGetI (S := wI T f25) C ul_X6 rfl (by decide) 16 16 rfl (by decide) rfl u_fl_RX6_76 (hT.at0 80 7) (v := ((cntb (zpd (sgM T q) b) 20 : Nat) : Int)) (hL25.1.trans (congrArg (fun x : Nat => (x : Int)) (sl_len _ _ _))) dX6_stops_29 (fun _ h => h) ?_
    have rb1 := hR.b (q 80) 16 (v := ((cntb (zpd (sgM T q) b) 20 : Nat) : Int)) (hL25.1.trans (congrArg (fun x : Nat => (x : Int)) (sl_len _ _ _)))
    refine KIret C rfl rfl (by
      first | exact hlift _ _ ⟨1, _, _, (by unfold oSs; exact if_neg hba), rfl, MP.thr hT hCn 1⟩ | exact hlift _ _ ⟨0, _, _, (by unfold oSs; exact if_pos hba), rfl, MP.kept0 hT hCn h00 hK25⟩) (by decide) (by decide) dX6_stops_32
  · refine KSt (st2 := [.int (iI 0)]) rfl ?_
    have hba : ¬ isBa (sgM T q) b := fun h9 => b7 ⟨h9.1, by have := h9.2; omega⟩
    refine KIf_ne (tgt := 19) C dX6_stops_10 (by decide) ⟨by omega, by omega⟩ (fun h => absurd h (by decide)) (fun _ => ?_)
    refine KAload_n C dX6_stops_13 rfl 0 rfl ?_
    refine KIconst C dX6_stops_14 ?_
    refine KCallV (As := [.int (iI 1)]) (b := q 80) (st := []) C (ct_X6_fails l g T q 1 hT (by omega)) u_ml_RX6_94 u_im_yX6_fails u_se_yX6_fails u_in_RX6 u_co_yX6_fails hd_yX6_fails (hT.at0 80 7) (by decide) rfl rfl ⟨Nat.le_of_ble_eq_true rfl, Nat.le_of_ble_eq_true rfl⟩ ⟨Nat.le_of_ble_eq_true rfl, Nat.le_of_ble_eq_true rfl⟩ (Nat.le_of_ble_eq_true rfl) dX6_stops_15 rfl (fun v15 u15 hp15 => ?_)
    obtain ⟨rfl, rfl⟩ := hp15
    refine KSt (st2 := [.int (iI 0)]) rfl ?_
    refine KRg (fun hR => ?_)
    refine KIret C rfl rfl (by
      first | exact hlift _ _ ⟨1, _, _, (by unfold oSs; exact if_neg hba), rfl, MP.thr hT hCn 1⟩ | exact hlift _ _ ⟨0, _, _, (by unfold oSs; exact if_pos hba), rfl, MP.kept0 hT hCn h00 hK25⟩) (by decide) (by decide) dX6_stops_18
