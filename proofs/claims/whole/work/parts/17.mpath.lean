def P_X6_layPath (S : Sto) (q : Nat → Nat) (m : Nat) : Option Value → Sto → Prop := fun v u => v = none ∧ ∃ f, u = wI S f ∧ KeptM S q f ∧ f (q 80) 16 = ((slm S q m).length : Int) ∧ (∀ j : Nat, j < (slm S q m).length → f (q 88) (j : Int) = (((slm S q m).getD j 0 : Nat) : Int)) ∧ ∀ x : Nat, x < (slm S q m).length → f (q 90) (x : Int) = ((rtS (dmM S q m) (slm S q m).length (x + 1)).1 : Int)
set_option maxRecDepth 100000 in
set_option maxHeartbeats 4000000 in
theorem ct_X6_layPath (l : Launch) (g : GG) (S : Sto) (q : Nat → Nat) (m : Nat) (hT : Top S q) (hCm : CfM S q) (hmm : okM (sI S (q 80) 2) (sI S (q 81)) m) : MetS l g yX6_layPath cX6_layPath 8 (none) 5 0 0 [.ref (q 80), .int (iI (m : Int))] S (P_X6_layPath S q m) := by
  refine MetS.of (own := RX6) (lv := [(0, .ref (q 80)), (1, .int (iI (m : Int)))]) (by decide) rfl (Nat.le_of_ble_eq_true rfl) rfl ?_
  intro pX eX sX mX argsX belowX methX cX C hin
  refine KRg (fun hR => ?_)
  obtain ⟨hA1, hA2, hN1, hN2, hG1, hG2⟩ := id hCm
  obtain ⟨hm1, hm2, hm3⟩ := id hmm
  have hlen : (slm S q m).length ≤ 9 := by rw [sl_len]; exact hm2
  have hdo := okM_okDm hCm hmm
  have h512 : 2 ^ (slm S q m).length ≤ 2 ^ 9 := Nat.pow_le_pow_right (by omega) hlen
  have hp1 := Nat.two_pow_pos (slm S q m).length
  refine KAload_n C dX6_layPath_0 rfl 0 rfl ?_
  refine KIload_n C dX6_layPath_1 rfl 1 rfl ?_
  refine KCallV (As := [.int (iI (m : Int))]) (b := q 80) (st := []) C (ct_X6_layRoute l g S q m hT hCm hmm) u_ml_RX6_86 u_im_yX6_layRoute u_se_yX6_layRoute u_in_RX6 u_co_yX6_layRoute hd_yX6_layRoute (hT.at0 80 7) (by decide) rfl rfl ⟨Nat.le_of_ble_eq_true rfl, Nat.le_of_ble_eq_true rfl⟩ ⟨Nat.le_of_ble_eq_true rfl, Nat.le_of_ble_eq_true rfl⟩ (Nat.le_of_ble_eq_true rfl) dX6_layPath_2 rfl (fun v2 u2 hp2 => ?_)
  obtain ⟨rfl, f2, rfl, hK2, hL2, hOn2⟩ := hp2
  refine KSt (st2 := []) rfl ?_
  refine KRg (fun hR => ?_)
  obtain ⟨k1, k2⟩ := mEnv (f := f2) m (funext fun k => hK2.at hT 81 k) (hK2.at0 hT 2) (hK2.at0 hT 3)
  have hc2 : f2 (q 80) 16 = ((slm S q m).length : Int) := by have h9 := hL2.1; rw [k1] at h9; exact h9
  have hst : ∀ j : Nat, j < (slm S q m).length → f2 (q 88) (j : Int) = (((slm S q m).getD j 0 : Nat) : Int) := by have h9 := hL2.2; rw [k1] at h9; exact h9
  refine KIconst C dX6_layPath_5 ?_
  refine KAload_n C dX6_layPath_6 rfl 0 rfl ?_
  refine KGetI (S := wI S f2) C ul_X6 rfl (by decide) 16 16 rfl (by decide) rfl u_fl_RX6_76 (hT.at0 80 7) (v := ((slm S q m).length : Int)) hc2 dX6_layPath_7 (fun _ h => h) ?_
  have rb1 := hR.b (q 80) 16 (v := ((slm S q m).length : Int)) hc2
  refine KIshl (v := iI ((2 ^ (slm S q m).length : Nat) : Int)) C dX6_layPath_10 (ib_shl (by omega)) ?_
  refine KIconst C dX6_layPath_11 ?_
  refine KIsub C dX6_layPath_12 ?_
  refine KTop (congrArg iI (show ((2 ^ (slm S q m).length : Nat) : Int) - 1 = ((2 ^ (slm S q m).length - 1 : Nat) : Int) from (by omega))) ?_
  refine KIstore_n (lv' := [(2, .int (iI ((2 ^ (slm S q m).length - 1 : Nat) : Int))), (0, .ref (q 80)), (1, .int (iI (m : Int)))]) C dX6_layPath_13 rfl (by decide) rfl ?_
  refine KBipush C dX6_layPath_14 (by decide) ?_
  refine KIstore_n (lv' := [(3, .int (iI 9)), (2, .int (iI ((2 ^ (slm S q m).length - 1 : Nat) : Int))), (0, .ref (q 80)), (1, .int (iI (m : Int)))]) C dX6_layPath_16 rfl (by decide) rfl ?_
  refine KIconst C dX6_layPath_17 ?_
  refine KIstore (lv' := [(4, .int (iI 0)), (3, .int (iI 9)), (2, .int (iI ((2 ^ (slm S q m).length - 1 : Nat) : Int))), (0, .ref (q 80)), (1, .int (iI (m : Int)))]) C dX6_layPath_18 (by decide) rfl ?_
  refine KSto (S2 := wI S (row1 f2 (q 90) (f2 (q 90)))) (by rw [row1_self]) ?_
  have hOn : OnM (slm S q m).length (dmM S q m) (f2 (q 89)) (2 ^ (slm S q m).length) := hOn2
  refine KLv (lv' := [(0, .ref (q 80)), (1, .int (iI (m : Int))), (2, .int (iI ((2 ^ (slm S q m).length - 1 : Nat) : Int))), (3, .int (iI 9)), (4, .int (iI 0))]) [3, 4, 2, 1, 0] rfl ?_
  have loop20 : ∀ (nX : Nat) (i : Nat) (F : Int → Int), (slm S q m).length - i < nX → (i ≤ (slm S q m).length) → (∀ x : Nat, x < i → F (x : Int) = ((rtS (dmM S q m) (slm S q m).length (x + 1)).1 : Int)) → Wk pX l eX (rmK 5 0 0) sX mX argsX belowX methX cX (MQ belowX (QcG g (P_X6_layPath S q m)) argsX sX 0 0 (ge (gB g))) g 8 0 0 20 [(0, .ref (q 80)), (1, .int (iI (m : Int))), (2, .int (iI ((rtS (dmM S q m) (slm S q m).length i).2 : Int))), (3, .int (iI ((rtS (dmM S q m) (slm S q m).length i).1 : Int))), (4, .int (iI (i : Int)))] [] (wI S (row1 f2 (q 90) F)) := by
    intro nX
    induction nX with
    | zero => intro i F hm; exact absurd hm (Nat.not_lt_zero _)
    | succ nX ih20 =>
      intro i F hm20 hi hF
      refine KRg (fun hR => ?_)
      have hE := mAll (f := row1 f2 (q 90) F) hCm hmm (funext fun k => (row1_ne _ _ _ (hT.ne 81 90)).trans (hK2.at hT 81 k)) ((row1_ne _ _ _ (hT.ne 80 90)).trans (hK2.at0 hT 1)) ((row1_ne _ _ _ (hT.ne 80 90)).trans (hK2.at0 hT 2)) ((row1_ne _ _ _ (hT.ne 80 90)).trans (hK2.at0 hT 3)) ((row1_ne _ _ _ (hT.ne 80 90)).trans hc2) (fun j hj => (row1_ne _ _ _ (hT.ne 88 90)).trans (hst j hj))
      obtain ⟨ho1, ho2, ho3⟩ := rtS_ok hdo i hi
      have hl5 : (rtS (dmM S q m) (slm S q m).length i).2 < 512 := Nat.lt_of_lt_of_le ho1 h512
      refine KIload C dX6_layPath_20 4 rfl ?_
      refine KAload_n C dX6_layPath_22 rfl 0 rfl ?_
      refine KGetI (S := wI S (row1 f2 (q 90) F)) C ul_X6 rfl (by decide) 16 16 rfl (by decide) rfl u_fl_RX6_76 (hT.at0 80 7) (v := ((slm S q m).length : Int)) ((row1_ne _ _ _ (hT.ne 80 90)).trans hc2) dX6_layPath_23 (fun _ h => h) ?_
      have rb2 := hR.b (q 80) 16 (v := ((slm S q m).length : Int)) ((row1_ne _ _ _ (hT.ne 80 90)).trans hc2)
      refine KIcmp_ge (tgt := 146) C dX6_layPath_26 (by decide) ⟨by omega, by omega⟩ ⟨by omega, by omega⟩ (fun c26 => ?_) (fun c26 => ?_)
      · refine KVret C rfl (by
          exact ⟨rfl, row1 f2 (q 90) F, rfl, hK2.row90 F, (row1_ne _ _ _ (hT.ne 80 90)).trans hc2, fun j hj => (row1_ne _ _ _ (hT.ne 88 90)).trans (hst j hj), fun x hx => (row1_same _ _ _ _).trans (hF x (by omega))⟩) (by decide) (by decide) dX6_layPath_146
      · refine KIconst C dX6_layPath_29 ?_
        refine KIstore (lv' := [(5, .int (iI (-1))), (0, .ref (q 80)), (1, .int (iI (m : Int))), (2, .int (iI ((rtS (dmM S q m) (slm S q m).length i).2 : Int))), (3, .int (iI ((rtS (dmM S q m) (slm S q m).length i).1 : Int))), (4, .int (iI (i : Int)))]) C dX6_layPath_30 (by decide) rfl ?_
        refine KAload_n C dX6_layPath_32 rfl 1 rfl ?_
        refine KGetI (S := wI S (row1 f2 (q 90) F)) C ul_X6 rfl (by decide) 16 16 rfl (by decide) rfl u_fl_RX6_76 (hT.at0 80 7) (v := ((slm S q m).length : Int)) ((row1_ne _ _ _ (hT.ne 80 90)).trans hc2) dX6_layPath_33 (fun _ h => h) ?_
        have rb3 := hR.b (q 80) 16 (v := ((slm S q m).length : Int)) ((row1_ne _ _ _ (hT.ne 80 90)).trans hc2)
        refine KIconst C dX6_layPath_36 ?_
        refine KIsub C dX6_layPath_37 ?_
        refine KIstore (lv' := [(6, .int (iI (((slm S q m).length : Int) - 1))), (5, .int (iI (-1))), (0, .ref (q 80)), (1, .int (iI (m : Int))), (2, .int (iI ((rtS (dmM S q m) (slm S q m).length i).2 : Int))), (3, .int (iI ((rtS (dmM S q m) (slm S q m).length i).1 : Int))), (4, .int (iI (i : Int)))]) C dX6_layPath_38 (by decide) rfl ?_
        refine KLv (lv' := [(0, .ref (q 80)), (1, .int (iI (m : Int))), (2, .int (iI ((rtS (dmM S q m) (slm S q m).length i).2 : Int))), (3, .int (iI ((rtS (dmM S q m) (slm S q m).length i).1 : Int))), (4, .int (iI (i : Int))), (5, .int (iI (-1))), (6, .int (iI (((slm S q m).length : Int) - 1)))]) [2, 3, 4, 5, 6, 1, 0] rfl ?_
        have loop40 : ∀ (nX : Nat) (kk : Nat) (w : Int), kk < nX → (kk ≤ (slm S q m).length) → (isNx (dmM S q m) (slm S q m).length (rtS (dmM S q m) (slm S q m).length i).2 (rtS (dmM S q m) (slm S q m).length i).1 kk w) → Wk pX l eX (rmK 5 0 0) sX mX argsX belowX methX cX (MQ belowX (QcG g (P_X6_layPath S q m)) argsX sX 0 0 (ge (gB g))) g 8 0 0 40 [(0, .ref (q 80)), (1, .int (iI (m : Int))), (2, .int (iI ((rtS (dmM S q m) (slm S q m).length i).2 : Int))), (3, .int (iI ((rtS (dmM S q m) (slm S q m).length i).1 : Int))), (4, .int (iI (i : Int))), (5, .int (iI w)), (6, .int (iI ((kk : Int) - 1)))] [] (wI S (row1 f2 (q 90) F)) := by
          intro nX
          induction nX with
          | zero => intro kk w hm; exact absurd hm (Nat.not_lt_zero _)
          | succ nX ih40 =>
            intro kk w hm40 hkk hx
            refine KRg (fun hR => ?_)
            refine KIload C dX6_layPath_40 6 rfl ?_
            refine KIf_lt (tgt := 121) C dX6_layPath_42 (by decide) ⟨by omega, by omega⟩ (fun c42 => ?_) (fun c42 => ?_)
            · have hw : w = ((rtS (dmM S q m) (slm S q m).length (i + 1)).1 : Int) := isNx.rt hdo (by omega) ((show kk = 0 by omega) ▸ hx)
              obtain ⟨hb1, hb2, -, -⟩ := rtS_bit hdo (i := i) (by omega)
              have hge2 := tb_ge hb2
              refine KLvE (lv2 := [(0, .ref (q 80)), (1, .int (iI (m : Int))), (2, .int (iI ((rtS (dmM S q m) (slm S q m).length i).2 : Int))), (3, .int (iI ((rtS (dmM S q m) (slm S q m).length i).1 : Int))), (4, .int (iI (i : Int))), (5, .int (iI ((rtS (dmM S q m) (slm S q m).length (i + 1)).1 : Int))), (6, .int (iI ((kk : Int) - 1)))]) (congrArg (fun zz : Int => ([(0, .ref (q 80)), (1, .int (iI (m : Int))), (2, .int (iI ((rtS (dmM S q m) (slm S q m).length i).2 : Int))), (3, .int (iI ((rtS (dmM S q m) (slm S q m).length i).1 : Int))), (4, .int (iI (i : Int))), (5, .int (iI zz)), (6, .int (iI ((kk : Int) - 1)))] : List (Nat × Value))) (show (w : Int) = ((rtS (dmM S q m) (slm S q m).length (i + 1)).1 : Int) from hw)) ?_
              refine KAload_n C dX6_layPath_121 rfl 0 rfl ?_
              refine KGetR (S := wI S (row1 f2 (q 90) F)) C ul_X6 rfl (by decide) 19 19 rfl (by decide) rfl u_fl_RX6_41 (hT.at0 80 7) (b := q 90) (hT.ptr 80 19 90) dX6_layPath_122 (fun _ h => h) ?_
              refine KIload C dX6_layPath_125 4 rfl ?_
              refine KIload C dX6_layPath_127 5 rfl ?_
              refine KIast (S := wI S (row1 f2 (q 90) F)) C 9 (hT.at0 90 20) (hT.ln0 90 9) ⟨by omega, by omega⟩ (by omega) ⟨by omega, by omega⟩ dX6_layPath_129 ?_
              refine KSto (S2 := wI S (row1 f2 (q 90) (upd1 F (i : Int) ((rtS (dmM S q m) (slm S q m).length (i + 1)).1 : Int)))) (congrArg (wI S) (up2_row1 _ _ _ _ _)) ?_
              refine KIload_n C dX6_layPath_130 rfl 2 rfl ?_
              refine KIconst C dX6_layPath_131 ?_
              refine KIload C dX6_layPath_132 5 rfl ?_
              refine KIshl (v := iI ((2 ^ (rtS (dmM S q m) (slm S q m).length (i + 1)).1 : Nat) : Int)) C dX6_layPath_134 (ib_shl (by omega)) ?_
              refine KIsub C dX6_layPath_135 ?_
              refine KTop (congrArg iI (show ((rtS (dmM S q m) (slm S q m).length i).2 : Int) - ((2 ^ (rtS (dmM S q m) (slm S q m).length (i + 1)).1 : Nat) : Int) = ((rtS (dmM S q m) (slm S q m).length (i + 1)).2 : Int) from (by show ((rtS (dmM S q m) (slm S q m).length i).2 : Int) - ((2 ^ (rtS (dmM S q m) (slm S q m).length (i + 1)).1 : Nat) : Int) = (((rtS (dmM S q m) (slm S q m).length i).2 - 2 ^ (rtS (dmM S q m) (slm S q m).length (i + 1)).1 : Nat) : Int); omega))) ?_
              refine KIstore_n (lv' := [(2, .int (iI ((rtS (dmM S q m) (slm S q m).length (i + 1)).2 : Int))), (0, .ref (q 80)), (1, .int (iI (m : Int))), (3, .int (iI ((rtS (dmM S q m) (slm S q m).length i).1 : Int))), (4, .int (iI (i : Int))), (5, .int (iI ((rtS (dmM S q m) (slm S q m).length (i + 1)).1 : Int))), (6, .int (iI ((kk : Int) - 1)))]) C dX6_layPath_136 rfl (by decide) rfl ?_
              refine KIload C dX6_layPath_137 5 rfl ?_
              refine KIstore_n (lv' := [(3, .int (iI ((rtS (dmM S q m) (slm S q m).length (i + 1)).1 : Int))), (2, .int (iI ((rtS (dmM S q m) (slm S q m).length (i + 1)).2 : Int))), (0, .ref (q 80)), (1, .int (iI (m : Int))), (4, .int (iI (i : Int))), (5, .int (iI ((rtS (dmM S q m) (slm S q m).length (i + 1)).1 : Int))), (6, .int (iI ((kk : Int) - 1)))]) C dX6_layPath_139 rfl (by decide) rfl ?_
              refine KIinc (v := ((i + 1 : Nat) : Int)) (lv' := [(4, .int (iI ((i + 1 : Nat) : Int))), (3, .int (iI ((rtS (dmM S q m) (slm S q m).length (i + 1)).1 : Int))), (2, .int (iI ((rtS (dmM S q m) (slm S q m).length (i + 1)).2 : Int))), (0, .ref (q 80)), (1, .int (iI (m : Int))), (5, .int (iI ((rtS (dmM S q m) (slm S q m).length (i + 1)).1 : Int))), (6, .int (iI ((kk : Int) - 1)))]) C dX6_layPath_140 4 rfl (by omega) (by decide) rfl ?_
              refine KGoto (tgt := 20) C dX6_layPath_143 (by decide) ?_
              refine KLv (lv' := [(0, .ref (q 80)), (1, .int (iI (m : Int))), (2, .int (iI ((rtS (dmM S q m) (slm S q m).length (i + 1)).2 : Int))), (3, .int (iI ((rtS (dmM S q m) (slm S q m).length (i + 1)).1 : Int))), (4, .int (iI ((i + 1 : Nat) : Int)))]) [3, 4, 2, 1, 0] rfl ?_
              exact ih20 (i + 1) (upd1 F (i : Int) ((rtS (dmM S q m) (slm S q m).length (i + 1)).1 : Int)) (by omega) (by omega) (fun x h => upd1_next (g := fun x => ((rtS (dmM S q m) (slm S q m).length (x + 1)).1 : Int)) hF x h)
            · have hw1 := hx.b
              refine KIload_n C dX6_layPath_45 rfl 2 rfl ?_
              refine KIload C dX6_layPath_46 6 rfl ?_
              refine KTop (congrArg iI (show (kk : Int) - 1 = ((kk - 1 : Nat) : Int) from (by omega))) ?_
              refine KIshr (v := iI (((rtS (dmM S q m) (slm S q m).length i).2 / 2 ^ (kk - 1) : Nat) : Int)) C dX6_layPath_48 (ib_shr (by omega) (by omega)) ?_
              refine KIconst C dX6_layPath_49 ?_
              refine KIand (v := iI (((rtS (dmM S q m) (slm S q m).length i).2 / 2 ^ (kk - 1) % 2 : Nat) : Int)) C dX6_layPath_50 (ib_bit (by omega) (by omega)) ?_
              refine KIconst C dX6_layPath_51 ?_
              refine KIcmp_ne (tgt := 98) C dX6_layPath_52 (by decide) ⟨by omega, by omega⟩ ⟨by omega, by omega⟩ (fun c52 => ?_) (fun c52 => ?_)
              · have hns : ¬ sat (dmM S q m) (slm S q m).length (rtS (dmM S q m) (slm S q m).length i).2 (rtS (dmM S q m) (slm S q m).length i).1 (kk - 1) := fun h => by have h8 := h.1; rw [tb_0 (by omega)] at h8; cases h8
                refine KIconst C dX6_layPath_98 ?_
                refine KIstore (lv' := [(7, .int (iI 0)), (0, .ref (q 80)), (1, .int (iI (m : Int))), (2, .int (iI ((rtS (dmM S q m) (slm S q m).length i).2 : Int))), (3, .int (iI ((rtS (dmM S q m) (slm S q m).length i).1 : Int))), (4, .int (iI (i : Int))), (5, .int (iI w)), (6, .int (iI ((kk : Int) - 1)))]) C dX6_layPath_99 (by decide) rfl ?_
                refine KIload C dX6_layPath_101 0 rfl ?_
                refine KIf_eq (tgt := 111) C dX6_layPath_103 (by decide) ⟨by omega, by omega⟩ (fun _ => ?_) (fun h => absurd h (by decide))
                refine KIload C dX6_layPath_111 6 rfl ?_
                refine KIstore (lv' := [(5, .int (iI w)), (7, .int (iI 0)), (0, .ref (q 80)), (1, .int (iI (m : Int))), (2, .int (iI ((rtS (dmM S q m) (slm S q m).length i).2 : Int))), (3, .int (iI ((rtS (dmM S q m) (slm S q m).length i).1 : Int))), (4, .int (iI (i : Int))), (6, .int (iI ((kk : Int) - 1)))]) C dX6_layPath_113 (by decide) rfl ?_
                refine KIinc (v := ((kk - 1 : Nat) : Int) - 1) (lv' := [(6, .int (iI (((kk - 1 : Nat) : Int) - 1))), (5, .int (iI w)), (7, .int (iI 0)), (0, .ref (q 80)), (1, .int (iI (m : Int))), (2, .int (iI ((rtS (dmM S q m) (slm S q m).length i).2 : Int))), (3, .int (iI ((rtS (dmM S q m) (slm S q m).length i).1 : Int))), (4, .int (iI (i : Int)))]) C dX6_layPath_115 7 rfl (by omega) (by decide) rfl ?_
                refine KGoto (tgt := 40) C dX6_layPath_118 (by decide) ?_
                refine KLv (lv' := [(0, .ref (q 80)), (1, .int (iI (m : Int))), (2, .int (iI ((rtS (dmM S q m) (slm S q m).length i).2 : Int))), (3, .int (iI ((rtS (dmM S q m) (slm S q m).length i).1 : Int))), (4, .int (iI (i : Int))), (5, .int (iI w)), (6, .int (iI (((kk - 1 : Nat) : Int) - 1)))]) [3, 4, 5, 6, 7, 1, 0] rfl ?_
                exact ih40 (kk - 1) w (by omega) (by omega) (by first | exact isNx.no' (by omega) hx hns | exact isNx.yes (w := w) (by omega) hys)
              · have hb52 : (rtS (dmM S q m) (slm S q m).length i).2.testBit (kk - 1) = true := tb_1 (by omega)
                have hge := tb_ge hb52
                have hx5 : (rtS (dmM S q m) (slm S q m).length i).2 - 2 ^ (kk - 1) < 512 := Nat.lt_of_le_of_lt (Nat.sub_le _ _) hl5
                refine KAload_n C dX6_layPath_55 rfl 0 rfl ?_
                refine KIload_n C dX6_layPath_56 rfl 3 rfl ?_
                refine KIload C dX6_layPath_57 6 rfl ?_
                refine KTop (congrArg iI (show (kk : Int) - 1 = ((kk - 1 : Nat) : Int) from (by omega))) ?_
                refine KCallV (As := [.int (iI ((rtS (dmM S q m) (slm S q m).length i).1 : Int)), .int (iI ((kk - 1 : Nat) : Int))]) (b := q 80) (st := []) C (ct_X6_step l g (wI S (row1 f2 (q 90) F)) q m ((rtS (dmM S q m) (slm S q m).length i).1) (kk - 1) hT hE.1 hE.2.1 hE.2.2.1 (by rw [hE.2.2.2.1]; exact ho3) (by rw [hE.2.2.2.1]; omega)) u_ml_RX6_83 u_im_yX6_step u_se_yX6_step u_in_RX6 u_co_yX6_step hd_yX6_step (hT.at0 80 7) (by decide) rfl rfl ⟨Nat.le_of_ble_eq_true rfl, Nat.le_of_ble_eq_true rfl⟩ ⟨Nat.le_of_ble_eq_true rfl, Nat.le_of_ble_eq_true rfl⟩ (Nat.le_of_ble_eq_true rfl) dX6_layPath_59 rfl (fun v59 u59 hp59 => ?_)
                obtain ⟨rfl, rfl⟩ := hp59
                refine KSt (st2 := [.int (iI (dmM (wI S (row1 f2 (q 90) F)) q m ((rtS (dmM S q m) (slm S q m).length i).1) (kk - 1)))]) rfl ?_
                refine KRg (fun hR => ?_)
                refine KTop (congrArg iI (show dmM (wI S (row1 f2 (q 90) F)) q m ((rtS (dmM S q m) (slm S q m).length i).1) (kk - 1) = dmM S q m (rtS (dmM S q m) (slm S q m).length i).1 (kk - 1) from (by rw [hE.2.2.2.2]))) ?_
                refine KAload_n C dX6_layPath_62 rfl 0 rfl ?_
                refine KGetR (S := wI S (row1 f2 (q 90) F)) C ul_X6 rfl (by decide) 18 18 rfl (by decide) rfl u_fl_RX6_38 (hT.at0 80 7) (b := q 89) (hT.ptr 80 18 89) dX6_layPath_63 (fun _ h => h) ?_
                refine KBipush C dX6_layPath_66 (by decide) ?_
                refine KIload_n C dX6_layPath_68 rfl 2 rfl ?_
                refine KIconst C dX6_layPath_69 ?_
                refine KIload C dX6_layPath_70 6 rfl ?_
                refine KTop (congrArg iI (show (kk : Int) - 1 = ((kk - 1 : Nat) : Int) from (by omega))) ?_
                refine KIshl (v := iI ((2 ^ (kk - 1) : Nat) : Int)) C dX6_layPath_72 (ib_shl (by omega)) ?_
                refine KIsub C dX6_layPath_73 ?_
                refine KTop (congrArg iI (show ((rtS (dmM S q m) (slm S q m).length i).2 : Int) - ((2 ^ (kk - 1) : Nat) : Int) = (((rtS (dmM S q m) (slm S q m).length i).2 - 2 ^ (kk - 1) : Nat) : Int) from (by omega))) ?_
                refine KImul C dX6_layPath_74 ?_
                refine KIload C dX6_layPath_75 6 rfl ?_
                refine KTop (congrArg iI (show (kk : Int) - 1 = ((kk - 1 : Nat) : Int) from (by omega))) ?_
                refine KIadd C dX6_layPath_77 ?_
                refine KTop (congrArg iI (show (10 * (((rtS (dmM S q m) (slm S q m).length i).2 - 2 ^ (kk - 1) : Nat) : Int)) + ((kk - 1 : Nat) : Int) = ((10 * ((rtS (dmM S q m) (slm S q m).length i).2 - 2 ^ (kk - 1)) + (kk - 1) : Nat) : Int) from (by omega))) ?_
                refine KIald (S := wI S (row1 f2 (q 90) F))  (v := tr (dmM S q m) (slm S q m).length ((rtS (dmM S q m) (slm S q m).length i).2 - 2 ^ (kk - 1)) (kk - 1)) C 5120 (hT.at0 89 20) (hT.ln0 89 5120) ⟨by omega, by omega⟩ (by omega) ((row1_ne _ _ _ (hT.ne 89 90)).trans (hOn.get2 ho1 (by omega) hb52)) dX6_layPath_78 ?_
                have htc := tr_b hdo (slm S q m).length ((rtS (dmM S q m) (slm S q m).length i).2 - 2 ^ (kk - 1)) (kk - 1) (Nat.le_refl _) (Nat.lt_of_le_of_lt (Nat.sub_le _ _) ho1) (Or.inl (by omega))
                have hdk := hdo.2 (rtS (dmM S q m) (slm S q m).length i).1 (kk - 1) ho3 (Or.inl (by omega))
                refine KIadd C dX6_layPath_79 ?_
                refine KAload_n C dX6_layPath_80 rfl 0 rfl ?_
                refine KGetR (S := wI S (row1 f2 (q 90) F)) C ul_X6 rfl (by decide) 18 18 rfl (by decide) rfl u_fl_RX6_38 (hT.at0 80 7) (b := q 89) (hT.ptr 80 18 89) dX6_layPath_81 (fun _ h => h) ?_
                refine KBipush C dX6_layPath_84 (by decide) ?_
                refine KIload_n C dX6_layPath_86 rfl 2 rfl ?_
                refine KImul C dX6_layPath_87 ?_
                refine KIload_n C dX6_layPath_88 rfl 3 rfl ?_
                refine KIadd C dX6_layPath_89 ?_
                refine KTop (congrArg iI (show (10 * ((rtS (dmM S q m) (slm S q m).length i).2 : Int)) + ((rtS (dmM S q m) (slm S q m).length i).1 : Int) = ((10 * (rtS (dmM S q m) (slm S q m).length i).2 + (rtS (dmM S q m) (slm S q m).length i).1 : Nat) : Int) from (by omega))) ?_
                refine KIald (S := wI S (row1 f2 (q 90) F))  (v := tr (dmM S q m) (slm S q m).length (rtS (dmM S q m) (slm S q m).length i).2 (rtS (dmM S q m) (slm S q m).length i).1) C 5120 (hT.at0 89 20) (hT.ln0 89 5120) ⟨by omega, by omega⟩ (by omega) ((row1_ne _ _ _ (hT.ne 89 90)).trans (hOn _ _ ho1 (rtS_out hdo i (by omega)))) dX6_layPath_90 ?_
                have htd := tr_b hdo (slm S q m).length (rtS (dmM S q m) (slm S q m).length i).2 (rtS (dmM S q m) (slm S q m).length i).1 (Nat.le_refl _) ho1 ho3
                refine KIcmp_ne (tgt := 98) C dX6_layPath_91 (by decide) ⟨by omega, by omega⟩ ⟨by omega, by omega⟩ (fun c91 => ?_) (fun c91 => ?_)
                · have hns : ¬ sat (dmM S q m) (slm S q m).length (rtS (dmM S q m) (slm S q m).length i).2 (rtS (dmM S q m) (slm S q m).length i).1 (kk - 1) := fun h => c91 h.2
                  refine KIconst C dX6_layPath_98 ?_
                  refine KIstore (lv' := [(7, .int (iI 0)), (0, .ref (q 80)), (1, .int (iI (m : Int))), (2, .int (iI ((rtS (dmM S q m) (slm S q m).length i).2 : Int))), (3, .int (iI ((rtS (dmM S q m) (slm S q m).length i).1 : Int))), (4, .int (iI (i : Int))), (5, .int (iI w)), (6, .int (iI ((kk : Int) - 1)))]) C dX6_layPath_99 (by decide) rfl ?_
                  refine KIload C dX6_layPath_101 0 rfl ?_
                  refine KIf_eq (tgt := 111) C dX6_layPath_103 (by decide) ⟨by omega, by omega⟩ (fun _ => ?_) (fun h => absurd h (by decide))
                  refine KIload C dX6_layPath_111 6 rfl ?_
                  refine KIstore (lv' := [(5, .int (iI w)), (7, .int (iI 0)), (0, .ref (q 80)), (1, .int (iI (m : Int))), (2, .int (iI ((rtS (dmM S q m) (slm S q m).length i).2 : Int))), (3, .int (iI ((rtS (dmM S q m) (slm S q m).length i).1 : Int))), (4, .int (iI (i : Int))), (6, .int (iI ((kk : Int) - 1)))]) C dX6_layPath_113 (by decide) rfl ?_
                  refine KIinc (v := ((kk - 1 : Nat) : Int) - 1) (lv' := [(6, .int (iI (((kk - 1 : Nat) : Int) - 1))), (5, .int (iI w)), (7, .int (iI 0)), (0, .ref (q 80)), (1, .int (iI (m : Int))), (2, .int (iI ((rtS (dmM S q m) (slm S q m).length i).2 : Int))), (3, .int (iI ((rtS (dmM S q m) (slm S q m).length i).1 : Int))), (4, .int (iI (i : Int)))]) C dX6_layPath_115 7 rfl (by omega) (by decide) rfl ?_
                  refine KGoto (tgt := 40) C dX6_layPath_118 (by decide) ?_
                  refine KLv (lv' := [(0, .ref (q 80)), (1, .int (iI (m : Int))), (2, .int (iI ((rtS (dmM S q m) (slm S q m).length i).2 : Int))), (3, .int (iI ((rtS (dmM S q m) (slm S q m).length i).1 : Int))), (4, .int (iI (i : Int))), (5, .int (iI w)), (6, .int (iI (((kk - 1 : Nat) : Int) - 1)))]) [3, 4, 5, 6, 7, 1, 0] rfl ?_
                  exact ih40 (kk - 1) w (by omega) (by omega) (by first | exact isNx.no' (by omega) hx hns | exact isNx.yes (w := w) (by omega) hys)
                · have hys : sat (dmM S q m) (slm S q m).length (rtS (dmM S q m) (slm S q m).length i).2 (rtS (dmM S q m) (slm S q m).length i).1 (kk - 1) := ⟨hb52, c91⟩
                  refine KIconst C dX6_layPath_94 ?_
                  refine KGoto (tgt := 99) C dX6_layPath_95 (by decide) ?_
                  refine KIstore (lv' := [(7, .int (iI 1)), (0, .ref (q 80)), (1, .int (iI (m : Int))), (2, .int (iI ((rtS (dmM S q m) (slm S q m).length i).2 : Int))), (3, .int (iI ((rtS (dmM S q m) (slm S q m).length i).1 : Int))), (4, .int (iI (i : Int))), (5, .int (iI w)), (6, .int (iI ((kk : Int) - 1)))]) C dX6_layPath_99 (by decide) rfl ?_
                  refine KIload C dX6_layPath_101 0 rfl ?_
                  refine KIf_eq (tgt := 111) C dX6_layPath_103 (by decide) ⟨by omega, by omega⟩ (fun h => absurd h (by decide)) (fun _ => ?_)
                  refine KIload C dX6_layPath_106 7 rfl ?_
                  refine KTop (congrArg iI (show (kk : Int) - 1 = ((kk - 1 : Nat) : Int) from (by omega))) ?_
                  refine KGoto (tgt := 113) C dX6_layPath_108 (by decide) ?_
                  refine KIstore (lv' := [(5, .int (iI ((kk - 1 : Nat) : Int))), (7, .int (iI 1)), (0, .ref (q 80)), (1, .int (iI (m : Int))), (2, .int (iI ((rtS (dmM S q m) (slm S q m).length i).2 : Int))), (3, .int (iI ((rtS (dmM S q m) (slm S q m).length i).1 : Int))), (4, .int (iI (i : Int))), (6, .int (iI ((kk : Int) - 1)))]) C dX6_layPath_113 (by decide) rfl ?_
                  refine KIinc (v := ((kk - 1 : Nat) : Int) - 1) (lv' := [(6, .int (iI (((kk - 1 : Nat) : Int) - 1))), (5, .int (iI ((kk - 1 : Nat) : Int))), (7, .int (iI 1)), (0, .ref (q 80)), (1, .int (iI (m : Int))), (2, .int (iI ((rtS (dmM S q m) (slm S q m).length i).2 : Int))), (3, .int (iI ((rtS (dmM S q m) (slm S q m).length i).1 : Int))), (4, .int (iI (i : Int)))]) C dX6_layPath_115 7 rfl (by omega) (by decide) rfl ?_
                  refine KGoto (tgt := 40) C dX6_layPath_118 (by decide) ?_
                  refine KLv (lv' := [(0, .ref (q 80)), (1, .int (iI (m : Int))), (2, .int (iI ((rtS (dmM S q m) (slm S q m).length i).2 : Int))), (3, .int (iI ((rtS (dmM S q m) (slm S q m).length i).1 : Int))), (4, .int (iI (i : Int))), (5, .int (iI ((kk - 1 : Nat) : Int))), (6, .int (iI (((kk - 1 : Nat) : Int) - 1)))]) [3, 4, 5, 6, 7, 1, 0] rfl ?_
                  exact ih40 (kk - 1) ((kk - 1 : Nat) : Int) (by omega) (by omega) (by first | exact isNx.no' (by omega) hx hns | exact isNx.yes (w := w) (by omega) hys)
        exact loop40 _ ((slm S q m).length) (-1) (Nat.lt_succ_self _) (by omega) isNx.init
  exact loop20 _ 0 (f2 (q 90)) (Nat.lt_succ_self _) (by omega) (fun x h => absurd h (Nat.not_lt_zero _))
