def P_L_isBatch (S : Sto) (q : Nat → Nat) (b : Nat) (z : Sig) (R : Int → Int) (tt : Nat) : Option Value → Sto → Prop := fun v u => v = some (.int (iI 1)) ∧ ∃ R2, LI u q tt z z R2
set_option maxRecDepth 100000 in
set_option maxHeartbeats 4000000 in
theorem ct_L_isBatch (l : Launch) (g : GG) (hnt : l.stackTraces = false) (S : Sto) (q : Nat → Nat) (b : Nat) (z : Sig) (R : Int → Int) (hI : LI S q (gT g) z z R) (hW : Wf z) (hb : b < zb z) (tt : Nat) (htt : tt = gT g) : MetN l g yL_isBatch cL_isBatch 12 (some FieldType.boolean) 15 20 120 [.ref (q 0), .int (iI (b : Int)), .ref (q 81), .ref (q 83), .ref (q 84), .ref (q 87), .ref (q 88), .ref (q 80)] S (P_L_isBatch S q b z R tt) := by
  refine MetN.of (own := RL) (lv := [(0, .ref (q 0)), (1, .int (iI (b : Int))), (2, .ref (q 81)), (3, .ref (q 83)), (4, .ref (q 84)), (5, .ref (q 87)), (6, .ref (q 88)), (7, .ref (q 80))]) (by decide) rfl (Nat.le_of_ble_eq_true rfl) rfl ?_
  intro pX eX sX mX argsX belowX methX cX C hnc
  refine KRg (fun hR => ?_)
  obtain ⟨h12, h6c⟩ := hI.l12
  have hbo := hW.2.1.2
  have hl9 := (hW.2.2.2.2.2.2.1 b hb).1
  have hmB := hW.okB (hW.lnB hb)
  have hC := hW.1
  have hl0 := hW.ln0 (b : Int)
  have hc6 := cnt6_b hW (b := (b : Int)) (by omega)
  have hmm := hmB.2.2
  obtain ⟨k0, hk0⟩ := zpd_some hW hb
  have htB := zto_b hW hmB
  refine KIload_n C dL_isBatch_0 rfl 1 rfl ?_
  refine KAload_n C dL_isBatch_1 rfl 3 rfl ?_
  refine KAload C dL_isBatch_2 4 rfl ?_
  refine KAload C dL_isBatch_4 7 rfl ?_
  refine KCallS (As := [.int (iI (b : Int)), .ref (q 83), .ref (q 84), .ref (q 80)]) (st := []) C (ct_L_products l g S q (b : Int) z hI.1 hW (hI.2.2.1) (by omega)) u_ml_RL_63 u_st_yL_products u_in_RL u_co_yL_products hd_yL_products ⟨Nat.le_of_ble_eq_true rfl, Nat.le_of_ble_eq_true rfl⟩ ⟨Nat.le_of_ble_eq_true rfl, Nat.le_of_ble_eq_true rfl⟩ (Nat.le_of_ble_eq_true rfl) dL_isBatch_6 rfl (fun v6 u6 hp6 => ?_)
  obtain ⟨rfl, rfl⟩ := hp6
  refine KSt (st2 := [.int (iI ((zpd z (b : Int) : Nat) : Int))]) rfl ?_
  refine KIstore (lv' := [(8, .int (iI ((zpd z (b : Int) : Nat) : Int))), (0, .ref (q 0)), (1, .int (iI (b : Int))), (2, .ref (q 81)), (3, .ref (q 83)), (4, .ref (q 84)), (5, .ref (q 87)), (6, .ref (q 88)), (7, .ref (q 80))]) C dL_isBatch_9 (by decide) rfl ?_
  refine KIload C dL_isBatch_11 0 rfl ?_
  refine KAload_n C dL_isBatch_13 rfl 3 rfl ?_
  refine KAload C dL_isBatch_14 6 rfl ?_
  refine KAload C dL_isBatch_16 7 rfl ?_
  refine KAload C dL_isBatch_18 8 rfl ?_
  refine KCallS (As := [.int (iI ((zpd z (b : Int) : Nat) : Int)), .ref (q 81), .ref (q 87), .ref (q 88), .ref (q 80)]) (st := []) C (ct_L_route l g S q (zpd z (b : Int)) (zN z) (zG z) (zP z) hI.1 (hI.2.2.1.1.2.2.2.2.2.2.1) (hI.2.2.1.1.2.2.2.2.2.2.2) (hI.2.2.1.2.1.1) (by omega) (by omega) hmB (hW.ds hmB) (sl6_b hW (by omega))) u_ml_RL_67 u_st_yL_route u_in_RL u_co_yL_route hd_yL_route ⟨Nat.le_of_ble_eq_true rfl, Nat.le_of_ble_eq_true rfl⟩ ⟨Nat.le_of_ble_eq_true rfl, Nat.le_of_ble_eq_true rfl⟩ (Nat.le_of_ble_eq_true rfl) dL_isBatch_20 rfl (fun v20 u20 hp20 => ?_)
  obtain ⟨rfl, f20, rfl, hKR20, hw020, hwj20⟩ := hp20
  refine KSt (st2 := [.int (iI (tour (zN z) (zG z) (zP z) (zpd z (b : Int))))]) rfl ?_
  have hI20 := hI.kr hKR20
  refine KRg (fun hR => ?_)
  refine KTop (congrArg iI (show tour (zN z) (zG z) (zP z) (zpd z (b : Int)) = zto z (zpd z (b : Int)) from rfl)) ?_
  rw [sl_c] at hw020 hwj20
  refine KIstore (lv' := [(9, .int (iI (zto z (zpd z (b : Int))))), (8, .int (iI ((zpd z (b : Int) : Nat) : Int))), (0, .ref (q 0)), (1, .int (iI (b : Int))), (2, .ref (q 81)), (3, .ref (q 83)), (4, .ref (q 84)), (5, .ref (q 87)), (6, .ref (q 88)), (7, .ref (q 80))]) C dL_isBatch_23 (by decide) rfl ?_
  refine KAload_n C dL_isBatch_25 rfl 2 rfl ?_
  refine KIload_n C dL_isBatch_26 rfl 3 rfl ?_
  refine KCallVC (As := [.int (iI (b : Int))]) (b := q 0) (st := []) C (ct_X5_linesOf l g hnt (wI S f20) q (b : Int) z hI20.1 hW (hI20.2.1) (⟨by omega, by omega⟩) (gT g) rfl) u_ml_RL_71 u_im_yX5_linesOf u_se_yX5_linesOf u_in_RX5 u_co_yX5_linesOf hd_yX5_linesOf (hI20.1.at0 0 6) (by decide) rfl rfl ⟨Nat.le_of_ble_eq_true rfl, Nat.le_of_ble_eq_true rfl⟩ ⟨Nat.le_of_ble_eq_true rfl, Nat.le_of_ble_eq_true rfl⟩ (Nat.le_of_ble_eq_true rfl) dL_isBatch_27 rfl (fun E9 u9 hx9 => False.elim (by obtain ⟨hc9, -⟩ := hx9; rw [(ho_Ln hb)] at hc9; simp at hc9)) (fun v27 u27 hp27 => ?_)
  obtain ⟨r27, z27, ho27, rfl, hc27⟩ := hp27
  rw [(ho_Ln hb)] at ho27; cases ho27
  have hI27 := hI20.cp hc27
  refine KSt (st2 := [.int (iI (zln z (b : Int)))]) rfl ?_
  refine KRg (fun hR => ?_)
  refine KIload_n C dL_isBatch_30 rfl 3 rfl ?_
  refine KAload_n C dL_isBatch_31 rfl 5 rfl ?_
  refine KAload C dL_isBatch_32 9 rfl ?_
  refine KCallS (As := [.int (iI (b : Int)), .ref (q 83), .ref (q 80)]) (st := [.int (iI (zln z (b : Int)))]) C (ct_L_lines l g u27 q (b : Int) z hI27.1 hW (hI27.2.2.1) (by omega)) u_ml_RL_60 u_st_yL_lines u_in_RL u_co_yL_lines hd_yL_lines ⟨Nat.le_of_ble_eq_true rfl, Nat.le_of_ble_eq_true rfl⟩ ⟨Nat.le_of_ble_eq_true rfl, Nat.le_of_ble_eq_true rfl⟩ (Nat.le_of_ble_eq_true rfl) dL_isBatch_34 rfl (fun v34 u34 hp34 => ?_)
  obtain ⟨rfl, rfl⟩ := hp34
  refine KSt (st2 := [.int (iI (zln z (b : Int))), .int (iI (zln z (b : Int)))]) rfl ?_
  refine KRg (fun hR => ?_)
  refine KIcmp_ne (tgt := 92) C dL_isBatch_37 (by decide) ⟨by omega, by omega⟩ ⟨by omega, by omega⟩ (fun c37 => absurd c37 (fun h9 => h9 rfl)) (fun c37 => ?_)
  refine KAload_n C dL_isBatch_40 rfl 2 rfl ?_
  refine KIload_n C dL_isBatch_41 rfl 3 rfl ?_
  refine KCallVC (As := [.int (iI (b : Int))]) (b := q 0) (st := []) C (ct_X5_lengthOf l g hnt u27 q (b : Int) z hI27.1 hW (hI27.2.1) (⟨by omega, by omega⟩) (gT g) rfl) u_ml_RL_74 u_im_yX5_lengthOf u_se_yX5_lengthOf u_in_RX5 u_co_yX5_lengthOf hd_yX5_lengthOf (hI27.1.at0 0 6) (by decide) rfl rfl ⟨Nat.le_of_ble_eq_true rfl, Nat.le_of_ble_eq_true rfl⟩ ⟨Nat.le_of_ble_eq_true rfl, Nat.le_of_ble_eq_true rfl⟩ (Nat.le_of_ble_eq_true rfl) dL_isBatch_42 rfl (fun E9 u9 hx9 => False.elim (by obtain ⟨hc9, -⟩ := hx9; rw [(ho_Lo hb)] at hc9; simp at hc9)) (fun v42 u42 hp42 => ?_)
  obtain ⟨r42, z42, ho42, rfl, hc42⟩ := hp42
  rw [(ho_Lo hb)] at ho42; cases ho42
  have hI42 := hI27.cp hc42
  refine KSt (st2 := [.int (iI (zto z (zpd z (b : Int))))]) rfl ?_
  refine KRg (fun hR => ?_)
  refine KIload C dL_isBatch_45 0 rfl ?_
  refine KIcmp_ne (tgt := 92) C dL_isBatch_47 (by decide) ⟨by omega, by omega⟩ ⟨by omega, by omega⟩ (fun c47 => absurd c47 (fun h9 => h9 rfl)) (fun c47 => ?_)
  refine KAload_n C dL_isBatch_50 rfl 2 rfl ?_
  refine KIload_n C dL_isBatch_51 rfl 3 rfl ?_
  refine KCallVC (As := [.int (iI (b : Int))]) (b := q 0) (st := []) C (ct_X5_lengthByTrying l g hnt u42 q (b : Int) z hI42.1 hW (hI42.2.1) (⟨by omega, by omega⟩) (gT g) rfl) u_ml_RL_77 u_im_yX5_lengthByTrying u_se_yX5_lengthByTrying u_in_RX5 u_co_yX5_lengthByTrying hd_yX5_lengthByTrying (hI42.1.at0 0 6) (by decide) rfl rfl ⟨Nat.le_of_ble_eq_true rfl, Nat.le_of_ble_eq_true rfl⟩ ⟨Nat.le_of_ble_eq_true rfl, Nat.le_of_ble_eq_true rfl⟩ (Nat.le_of_ble_eq_true rfl) dL_isBatch_52 rfl (fun E9 u9 hx9 => False.elim (by obtain ⟨hc9, -⟩ := hx9; rw [(ho_Lt hb hc6)] at hc9; simp at hc9)) (fun v52 u52 hp52 => ?_)
  obtain ⟨r52, z52, ho52, rfl, hc52⟩ := hp52
  rw [(ho_Lt hb hc6)] at ho52; cases ho52
  have hI52 := hI42.cp hc52
  refine KSt (st2 := [.int (iI (zto z (zpd z (b : Int))))]) rfl ?_
  refine KRg (fun hR => ?_)
  refine KIload C dL_isBatch_55 0 rfl ?_
  refine KIcmp_ne (tgt := 92) C dL_isBatch_57 (by decide) ⟨by omega, by omega⟩ ⟨by omega, by omega⟩ (fun c57 => absurd c57 (fun h9 => h9 rfl)) (fun c57 => ?_)
  refine KAload_n C dL_isBatch_60 rfl 2 rfl ?_
  refine KIload_n C dL_isBatch_61 rfl 3 rfl ?_
  refine KCallVC (As := [.int (iI (b : Int))]) (b := q 0) (st := []) C (ct_X5_stops l g hnt u52 q (b : Int) z hI52.1 hW (hI52.2.1) (⟨by omega, by omega⟩) (gT g) rfl) u_ml_RL_80 u_im_yX5_stops u_se_yX5_stops u_in_RX5 u_co_yX5_stops hd_yX5_stops (hI52.1.at0 0 6) (by decide) rfl rfl ⟨Nat.le_of_ble_eq_true rfl, Nat.le_of_ble_eq_true rfl⟩ ⟨Nat.le_of_ble_eq_true rfl, Nat.le_of_ble_eq_true rfl⟩ (Nat.le_of_ble_eq_true rfl) dL_isBatch_62 rfl (fun E9 u9 hx9 => False.elim (by obtain ⟨hc9, -⟩ := hx9; rw [(ho_Ss hb)] at hc9; simp at hc9)) (fun v62 u62 hp62 => ?_)
  obtain ⟨r62, z62, ho62, rfl, hc62⟩ := hp62
  rw [(ho_Ss hb)] at ho62; cases ho62
  have hI62 := hI52.cp hc62
  refine KSt (st2 := [.int (iI ((cntb (zpd z (b : Int)) 20 : Nat) : Int))]) rfl ?_
  refine KRg (fun hR => ?_)
  refine KAload C dL_isBatch_65 7 rfl ?_
  refine KIconst C dL_isBatch_67 ?_
  refine KIald (S := u62)  (v := ((cntb (zpd z (b : Int)) 20 : Nat) : Int)) C 10 (hI62.1.at0 87 20) (hI62.1.ln0 87 10) ⟨by omega, by omega⟩ (by omega) ((congrFun hI62.2.2.2 _).trans hw020) dL_isBatch_68 ?_
  refine KIcmp_ne (tgt := 92) C dL_isBatch_69 (by decide) ⟨by omega, by omega⟩ ⟨by omega, by omega⟩ (fun c69 => absurd c69 (fun h9 => h9 rfl)) (fun c69 => ?_)
  refine KAload_n C dL_isBatch_72 rfl 2 rfl ?_
  refine KIload_n C dL_isBatch_73 rfl 3 rfl ?_
  refine KCallVC (As := [.int (iI (b : Int))]) (b := q 0) (st := []) C (ct_X5_lengthThrough l g hnt u62 q (b : Int) z hI62.1 hW (hI62.2.1) (⟨by omega, by omega⟩) (gT g) rfl) u_ml_RL_83 u_im_yX5_lengthThrough u_se_yX5_lengthThrough u_in_RX5 u_co_yX5_lengthThrough hd_yX5_lengthThrough (hI62.1.at0 0 6) (by decide) rfl rfl ⟨Nat.le_of_ble_eq_true rfl, Nat.le_of_ble_eq_true rfl⟩ ⟨Nat.le_of_ble_eq_true rfl, Nat.le_of_ble_eq_true rfl⟩ (Nat.le_of_ble_eq_true rfl) dL_isBatch_74 rfl (fun E9 u9 hx9 => False.elim (by obtain ⟨hc9, -⟩ := hx9; rw [(ho_Th hb)] at hc9; simp at hc9)) (fun v74 u74 hp74 => ?_)
  obtain ⟨r74, z74, ho74, rfl, hc74⟩ := hp74
  rw [(ho_Th hb)] at ho74; cases ho74
  have hI74 := hI62.cp hc74
  refine KSt (st2 := [.int (iI (zth z (b : Int)))]) rfl ?_
  refine KRg (fun hR => ?_)
  have hthb := zth_b hW (b := (b : Int)) hmB
  refine KIload C dL_isBatch_77 1 rfl ?_
  refine KAload_n C dL_isBatch_79 rfl 4 rfl ?_
  refine KAload C dL_isBatch_80 9 rfl ?_
  refine KCallS (As := [.int (iI ((zpd z (b : Int) : Nat) : Int)), .ref (q 81), .ref (q 80)]) (st := [.int (iI (zth z (b : Int)))]) C (ct_L_through l g u74 q (b : Int) z hI74.1 hW (hI74.q5) (hI74.q6) (hI74.q7) (hI74.P) (by omega) k0 hk0) u_ml_RL_86 u_st_yL_through u_in_RL u_co_yL_through hd_yL_through ⟨Nat.le_of_ble_eq_true rfl, Nat.le_of_ble_eq_true rfl⟩ ⟨Nat.le_of_ble_eq_true rfl, Nat.le_of_ble_eq_true rfl⟩ (Nat.le_of_ble_eq_true rfl) dL_isBatch_82 rfl (fun v82 u82 hp82 => ?_)
  obtain ⟨rfl, rfl⟩ := hp82
  refine KSt (st2 := [.int (iI (zth z (b : Int))), .int (iI (zth z (b : Int)))]) rfl ?_
  refine KRg (fun hR => ?_)
  refine KIcmp_ne (tgt := 92) C dL_isBatch_85 (by decide) ⟨by omega, by omega⟩ ⟨by omega, by omega⟩ (fun c85 => absurd c85 (fun h9 => h9 rfl)) (fun c85 => ?_)
  refine KIconst C dL_isBatch_88 ?_
  refine KGoto (tgt := 93) C dL_isBatch_89 (by decide) ?_
  refine KIstore (lv' := [(10, .int (iI 1)), (9, .int (iI (zto z (zpd z (b : Int))))), (8, .int (iI ((zpd z (b : Int) : Nat) : Int))), (0, .ref (q 0)), (1, .int (iI (b : Int))), (2, .ref (q 81)), (3, .ref (q 83)), (4, .ref (q 84)), (5, .ref (q 87)), (6, .ref (q 88)), (7, .ref (q 80))]) C dL_isBatch_93 (by decide) rfl ?_
  refine KIconst C dL_isBatch_95 ?_
  refine KIstore (lv' := [(11, .int (iI 0)), (10, .int (iI 1)), (9, .int (iI (zto z (zpd z (b : Int))))), (8, .int (iI ((zpd z (b : Int) : Nat) : Int))), (0, .ref (q 0)), (1, .int (iI (b : Int))), (2, .ref (q 81)), (3, .ref (q 83)), (4, .ref (q 84)), (5, .ref (q 87)), (6, .ref (q 88)), (7, .ref (q 80))]) C dL_isBatch_96 (by decide) rfl ?_
  refine KLv (lv' := [(0, .ref (q 0)), (1, .int (iI (b : Int))), (2, .ref (q 81)), (3, .ref (q 83)), (4, .ref (q 84)), (5, .ref (q 87)), (6, .ref (q 88)), (7, .ref (q 80)), (8, .int (iI ((zpd z (b : Int) : Nat) : Int))), (9, .int (iI (zto z (zpd z (b : Int))))), (10, .int (iI 1)), (11, .int (iI 0))]) [4, 5, 6, 7, 8, 9, 10, 11, 3, 2, 1, 0] rfl ?_
  refine KWiden (k := 6 + 2 * 0) (n := 36 + 12 * 0) (by omega) (by omega) ?_
  have loop98 : ∀ (nX : Nat) (k : Nat) (U : Sto), cntb (zpd z (b : Int)) 20 - k < nX → (k ≤ cntb (zpd z (b : Int)) 20) → (LI U q (gT g) z z (f20 (q 87))) → Wk pX l eX (rmK 15 20 120) sX mX argsX belowX methX cX (MQ belowX (QcG g (P_L_isBatch S q b z R tt)) argsX sX 20 120 (ge (gB g))) g 12 (6 + 2 * k) (36 + 12 * k) 98 [(0, .ref (q 0)), (1, .int (iI (b : Int))), (2, .ref (q 81)), (3, .ref (q 83)), (4, .ref (q 84)), (5, .ref (q 87)), (6, .ref (q 88)), (7, .ref (q 80)), (8, .int (iI ((zpd z (b : Int) : Nat) : Int))), (9, .int (iI (zto z (zpd z (b : Int))))), (10, .int (iI 1)), (11, .int (iI (k : Int)))] [] U := by
    intro nX
    induction nX with
    | zero => intro k U hm; exact absurd hm (Nat.not_lt_zero _)
    | succ nX ih98 =>
      intro k U hm98 hk hIU
      refine KRg (fun hR => ?_)
      refine KIload C dL_isBatch_98 11 rfl ?_
      refine KAload C dL_isBatch_100 5 rfl ?_
      refine KIconst C dL_isBatch_102 ?_
      refine KIald (S := U)  (v := ((cntb (zpd z (b : Int)) 20 : Nat) : Int)) C 10 (hIU.1.at0 87 20) (hIU.1.ln0 87 10) ⟨by omega, by omega⟩ (by omega) ((congrFun hIU.2.2.2 _).trans hw020) dL_isBatch_103 ?_
      refine KIcmp_ge (tgt := 145) C dL_isBatch_104 (by decide) ⟨by omega, by omega⟩ ⟨by omega, by omega⟩ (fun c104 => ?_) (fun c104 => ?_)
      · refine KIload C dL_isBatch_145 10 rfl ?_
        refine KIf_eq (tgt := 171) C dL_isBatch_147 (by decide) ⟨by omega, by omega⟩ (fun h => absurd h (by decide)) (fun _ => ?_)
        refine KAload_n C dL_isBatch_150 rfl 0 rfl ?_
        refine KBipush C dL_isBatch_151 (by decide) ?_
        refine KIload_n C dL_isBatch_153 rfl 1 rfl ?_
        refine KAload C dL_isBatch_154 5 rfl ?_
        refine KIconst C dL_isBatch_156 ?_
        refine KIald (S := U)  (v := ((cntb (zpd z (b : Int)) 20 : Nat) : Int)) C 10 (hIU.1.at0 87 20) (hIU.1.ln0 87 10) ⟨by omega, by omega⟩ (by omega) ((congrFun hIU.2.2.2 _).trans hw020) dL_isBatch_157 ?_
        refine KIconst C dL_isBatch_158 ?_
        refine KCallSH (As := [.ref (q 0), .int (iI 7), .int (iI (b : Int)), .int (iI ((cntb (zpd z (b : Int)) 20 : Nat) : Int)), .int (iI 0)]) (st := []) C hnc (ct_L_calls_stopAt l g hnt U q (b : Int) ((cntb (zpd z (b : Int)) 20 : Nat) : Int) 0 z hIU.1 hW hIU.2.1 ⟨by omega, by omega⟩ ⟨by omega, by omega⟩ (gT g) rfl) u_ml_RL_89 u_st_yL_calls u_in_RL u_cw_calls hd_yL_calls ⟨Nat.le_of_ble_eq_true rfl, Nat.le_of_ble_eq_true rfl⟩ ⟨by show 6 + 2 * k + 2 ≤ 20; omega, by show 36 + 12 * k + 12 ≤ 120; omega⟩ (Nat.le_of_ble_eq_true rfl) dL_isBatch_159 rfl (fun v159 u159 hp159 => ?_)
        obtain ⟨rfl, hc159⟩ := hp159.no (ho_Sx hb) (by decide) (by decide : _ = ((-4) : Int))
        have hI159 := hIU.cp hc159
        refine KSt (st2 := [.int (iI (-4))]) rfl ?_
        refine KRg (fun hR => ?_)
        refine KBipush C dL_isBatch_162 (by decide) ?_
        refine KIcmp_ne (tgt := 171) C dL_isBatch_164 (by decide) ⟨by omega, by omega⟩ ⟨by omega, by omega⟩ (fun h => absurd h (by decide)) (fun _ => ?_)
        refine KIconst C dL_isBatch_167 ?_
        refine KGoto (tgt := 172) C dL_isBatch_168 (by decide) ?_
        refine KIret C rfl rfl (by
          exact ⟨rfl, _, by rw [htt]; exact hI159⟩) (by first | decide | omega) (by first | decide | omega) dL_isBatch_172
      · refine KIload C dL_isBatch_107 10 rfl ?_
        refine KIf_eq (tgt := 145) C dL_isBatch_109 (by decide) ⟨by omega, by omega⟩ (fun h => absurd h (by decide)) (fun _ => ?_)
        refine KAload_n C dL_isBatch_112 rfl 0 rfl ?_
        refine KBipush C dL_isBatch_113 (by decide) ?_
        refine KIload_n C dL_isBatch_115 rfl 1 rfl ?_
        refine KIload C dL_isBatch_116 11 rfl ?_
        refine KIconst C dL_isBatch_118 ?_
        refine KCallSH (As := [.ref (q 0), .int (iI 7), .int (iI (b : Int)), .int (iI (k : Int)), .int (iI 0)]) (st := []) C hnc (ct_L_calls_stopAt l g hnt U q (b : Int) (k : Int) 0 z hIU.1 hW hIU.2.1 ⟨by omega, by omega⟩ ⟨by omega, by omega⟩ (gT g) rfl) u_ml_RL_89 u_st_yL_calls u_in_RL u_cw_calls hd_yL_calls ⟨Nat.le_of_ble_eq_true rfl, Nat.le_of_ble_eq_true rfl⟩ ⟨by show 6 + 2 * k + 2 ≤ 20; omega, by show 36 + 12 * k + 12 ≤ 120; omega⟩ (Nat.le_of_ble_eq_true rfl) dL_isBatch_119 rfl (fun v119 u119 hp119 => ?_)
        obtain ⟨rfl, hc119⟩ := hp119.ok (ho_Sa hb (show k < cntb (zpd z (b : Int)) 20 by omega))
        have hI119 := hIU.cp hc119
        refine KSt (st2 := [.int (iI (rout (zN z) (zG z) (zP z) (zpd z (b : Int)) k))]) rfl ?_
        refine KRg (fun hR => ?_)
        have hrb := rout_b hW hmB (k := k) (by rw [sl_c]; omega)
        refine KAload C dL_isBatch_122 5 rfl ?_
        refine KIconst C dL_isBatch_124 ?_
        refine KIload C dL_isBatch_125 11 rfl ?_
        refine KIadd C dL_isBatch_127 ?_
        refine KTop (congrArg iI (show 1 + (k : Int) = ((1 + k : Nat) : Int) from (by omega))) ?_
        refine KIald (S := u119)  (v := rout (zN z) (zG z) (zP z) (zpd z (b : Int)) k) C 10 (hI119.1.at0 87 20) (hI119.1.ln0 87 10) ⟨by omega, by omega⟩ (by omega) ((congrFun hI119.2.2.2 _).trans (hwj20 k (by omega))) dL_isBatch_128 ?_
        refine KIcmp_ne (tgt := 136) C dL_isBatch_129 (by decide) ⟨by omega, by omega⟩ ⟨by omega, by omega⟩ (fun c129 => absurd c129 (fun h9 => h9 rfl)) (fun c129 => ?_)
        refine KIconst C dL_isBatch_132 ?_
        refine KGoto (tgt := 137) C dL_isBatch_133 (by decide) ?_
        refine KIstore (lv' := [(10, .int (iI 1)), (0, .ref (q 0)), (1, .int (iI (b : Int))), (2, .ref (q 81)), (3, .ref (q 83)), (4, .ref (q 84)), (5, .ref (q 87)), (6, .ref (q 88)), (7, .ref (q 80)), (8, .int (iI ((zpd z (b : Int) : Nat) : Int))), (9, .int (iI (zto z (zpd z (b : Int))))), (11, .int (iI (k : Int)))]) C dL_isBatch_137 (by decide) rfl ?_
        refine KIinc (v := ((k + 1 : Nat) : Int)) (lv' := [(11, .int (iI ((k + 1 : Nat) : Int))), (10, .int (iI 1)), (0, .ref (q 0)), (1, .int (iI (b : Int))), (2, .ref (q 81)), (3, .ref (q 83)), (4, .ref (q 84)), (5, .ref (q 87)), (6, .ref (q 88)), (7, .ref (q 80)), (8, .int (iI ((zpd z (b : Int) : Nat) : Int))), (9, .int (iI (zto z (zpd z (b : Int)))))]) C dL_isBatch_139 11 rfl (by omega) (by decide) rfl ?_
        refine KGoto (tgt := 98) C dL_isBatch_142 (by decide) ?_
        refine KWiden (k := 6 + 2 * (k + 1)) (n := 36 + 12 * (k + 1)) (by omega) (by omega) ?_
        refine KLv (lv' := [(0, .ref (q 0)), (1, .int (iI (b : Int))), (2, .ref (q 81)), (3, .ref (q 83)), (4, .ref (q 84)), (5, .ref (q 87)), (6, .ref (q 88)), (7, .ref (q 80)), (8, .int (iI ((zpd z (b : Int) : Nat) : Int))), (9, .int (iI (zto z (zpd z (b : Int))))), (10, .int (iI 1)), (11, .int (iI ((k + 1 : Nat) : Int)))]) [2, 3, 4, 5, 6, 7, 8, 9, 10, 11, 1, 0] rfl ?_
        exact ih98 (k + 1) u119 (by omega) (by omega) hI119
  exact loop98 _ 0 u74 (Nat.lt_succ_self _) (by omega) hI74
