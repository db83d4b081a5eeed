def P_X4_join (S : Sto) (q : Nat → Nat) (w0 : Shp) (z0 : Sig) (tt : Nat) : Option Value → Sto → Prop := fun v u => CP S q tt u (zjn z0) ∧ v = none
set_option maxRecDepth 100000 in
set_option maxHeartbeats 4000000 in
theorem ct_X4_join (l : Launch) (g : GG) (S : Sto) (q : Nat → Nat) (w0 : Shp) (z0 : Sig) (hT : Top S q) (hW0 : Wf z0) (hCj0 : CRj S q (gT g) w0 z0) (tt : Nat) (htt : tt = gT g) : MetS l g yX4_join cX4_join 5 (none) 6 40 360 [.ref (q 3), .int (iI (zC z0))] S (P_X4_join S q w0 z0 tt) := by
  refine MetS.of (own := RX4) (lv := [(0, .ref (q 3)), (1, .int (iI (zC z0)))]) (by decide) rfl (Nat.le_of_ble_eq_true rfl) rfl ?_
  intro pX eX sX mX argsX belowX methX cX C hin
  refine KRg (fun hR => ?_)
  obtain ⟨w, hw0⟩ : ∃ w, w = w0 := ⟨_, rfl⟩
  obtain ⟨z, hz0⟩ : ∃ z, z = z0 := ⟨_, rfl⟩
  have hW : Wf z := by rw [hz0]; exact hW0
  have hCj : CRj S q (gT g) w z := by rw [hz0, hw0]; exact hCj0
  have hb40 := hW.2.1
  have hz40 : zb z0 ≤ 40 := by rw [← hz0]; omega
  obtain ⟨hWh, hBk, hOr, hBt, hBV, hz⟩ := id hCj
  have hn5 := hBt.1.2.2.2.1
  have hn60 := hBt.1.2.2.2.2.1
  obtain ⟨e10, e11, e12, e6, -, e04, -⟩ := id hWh
  have hC := hW.1
  have hCf : Cf S q := ⟨by omega, by omega, by omega, by omega, by omega, by omega⟩
  have ho40 := hW.2.1
  refine KIconst C dX4_join_0 ?_
  refine KIstore_n (lv' := [(2, .int (iI 0)), (0, .ref (q 3)), (1, .int (iI (zC z0)))]) C dX4_join_1 rfl (by decide) rfl ?_
  refine KLv (lv' := [(0, .ref (q 3)), (1, .int (iI (zC z0))), (2, .int (iI 0))]) [1, 2, 0] rfl ?_
  have loop2 : ∀ (nX : Nat) (i : Nat) (S1 : Sto), zb z - i < nX → (i ≤ zb z) → (Fra S q S1 ∧ OutM S q S1 ∧ Top S1 q) → (Tab S1 q w z (zb z) (fun a b => a < i ∨ b < i)) → Wk pX l eX (rmK 6 40 360) sX mX argsX belowX methX cX (MQ belowX (QcG g (P_X4_join S q w0 z0 tt)) argsX sX 40 360 (ge (gB g))) g 5 0 0 2 [(0, .ref (q 3)), (1, .int (iI (zC z0))), (2, .int (iI (i : Int)))] [] S1 := by
    intro nX
    induction nX with
    | zero => intro i S1 hm; exact absurd hm (Nat.not_lt_zero _)
    | succ nX ih2 =>
      intro i S1 hm2 hi hI hTb
      refine KRg (fun hR => ?_)
      have hCjb := hCj
      have hTb0 := hT
      have hTo := hT
      have hT : Top S1 q := hI.2.2
      have hCj : CRj S1 q (gT g) w z := hCj.fra hTo hI.1
      obtain ⟨hWh, hBk, hOr, hBt, hBV, hz⟩ := id hCj
      have hn5 := hBt.1.2.2.2.1
      have hn60 := hBt.1.2.2.2.2.1
      obtain ⟨e10, e11, e12, e6, -, e04, -⟩ := id hWh
      have hC := hW.1
      have hCf : Cf S1 q := ⟨by omega, by omega, by omega, by omega, by omega, by omega⟩
      have ho40 := hW.2.1
      refine KIload_n C dX4_join_2 rfl 2 rfl ?_
      refine KAload_n C dX4_join_3 rfl 0 rfl ?_
      refine KGetR (S := S1) C ul_X4 rfl (by decide) 1 1 rfl (by decide) rfl u_fl_RX4_12 (hT.at0 3 5) (b := q 5) (hT.ptr 3 1 5) dX4_join_4 (fun _ h => h) ?_
      refine KCallV (As := []) (b := q 5) (st := [.int (iI (i : Int))]) C (ct_Jx4a65c_size_8abf5 l g S1 (q 5) (w5 w) (k5 w) (zb z) hBt.1) u_ml_RX4_31 u_im_yJx4a65c_size_8abf5 u_se_yJx4a65c_size_8abf5 u_in_RJx4a65c u_co_yJx4a65c_size_8abf5 hd_yJx4a65c_size_8abf5 (hT.at0 5 0) (by decide) rfl rfl ⟨Nat.le_of_ble_eq_true rfl, Nat.le_of_ble_eq_true rfl⟩ ⟨Nat.le_of_ble_eq_true rfl, Nat.le_of_ble_eq_true rfl⟩ (Nat.le_of_ble_eq_true rfl) dX4_join_7 rfl (fun v7 u7 hp7 => ?_)
      obtain ⟨rfl, rfl⟩ := hp7
      refine KSt (st2 := [.int (iI ((zb z) : Int)), .int (iI (i : Int))]) rfl ?_
      refine KRg (fun hR => ?_)
      refine KIcmp_ge (tgt := 47) C dX4_join_10 (by decide) ⟨by omega, by omega⟩ ⟨by omega, by omega⟩ (fun c10 => ?_) (fun c10 => ?_)
      · refine KIconst C dX4_join_47 ?_
        refine KIstore_n (lv' := [(2, .int (iI 0)), (0, .ref (q 3)), (1, .int (iI (zC z0)))]) C dX4_join_48 rfl (by decide) rfl ?_
        refine KLv (lv' := [(0, .ref (q 3)), (1, .int (iI (zC z0))), (2, .int (iI 0))]) [1, 2, 0] rfl ?_
        have loop49 : ∀ (nX : Nat) (k : Nat) (S3 : Sto) (w : Shp) (z : Sig), 40 - k < nX → (k ≤ 40 ∧ k + zb z ≤ zb z0) → (Wf z) → (CRj S3 q (gT g) w z) → (Gro S S3 ∧ OutM S q S3 ∧ Top S3 q) → (Tab S3 q w z (zb z) (fun _ _ => True)) → (zjn z = zjn z0) → (zC z0 = zC z) → Wk pX l eX (rmK 6 40 360) sX mX argsX belowX methX cX (MQ belowX (QcG g (P_X4_join S q w0 z0 tt)) argsX sX 40 360 (ge (gB g))) g 5 0 0 49 [(0, .ref (q 3)), (1, .int (iI (zC z0))), (2, .int (iI (k : Int)))] [] S3 := by
          intro nX
          induction nX with
          | zero => intro k S3 w z hm; exact absurd hm (Nat.not_lt_zero _)
          | succ nX ih49 =>
            intro k S3 w z hm49 hk hW hC3 hI3 hTb3 hzf hzC
            refine KRg (fun hR => ?_)
            obtain ⟨hk1, hk2⟩ := hk
            have hTo := hT
            have hT : Top S3 q := hI3.2.2
            have hCj : CRj S3 q (gT g) w z := hC3
            obtain ⟨hWh, hBk, hOr, hBt, hBV, hz⟩ := id hCj
            have hn5 := hBt.1.2.2.2.1
            have hn60 := hBt.1.2.2.2.2.1
            obtain ⟨e10, e11, e12, e6, -, e04, -⟩ := id hWh
            have hC := hW.1
            have hCf : Cf S3 q := ⟨by omega, by omega, by omega, by omega, by omega, by omega⟩
            have ho40 := hW.2.1
            refine KIload_n C dX4_join_49 rfl 2 rfl ?_
            refine KBipush C dX4_join_50 (by decide) ?_
            refine KIcmp_ge (tgt := 103) C dX4_join_52 (by decide) ⟨by omega, by omega⟩ ⟨by omega, by omega⟩ (fun c52 => ?_) (fun c52 => ?_)
            · have hnj : ¬ 0 < (zj z).1 := fun h9 => by have := zj_pos h9; omega
              refine KIconst C dX4_join_103 ?_
              refine KIstore_n (lv' := [(2, .int (iI 0)), (0, .ref (q 3)), (1, .int (iI (zC z0)))]) C dX4_join_104 rfl (by decide) rfl ?_
              have hzf8 : z = zjn z0 := (zjn_end hnj).symm.trans hzf
              refine KLv (lv' := [(0, .ref (q 3)), (1, .int (iI (zC z0))), (2, .int (iI 0))]) [1, 2, 0] rfl ?_
              refine KWiden (k := 0) (n := 9 * 0) (by omega) (by omega) ?_
              have loop105 : ∀ (nX : Nat) (b : Nat) (S5 : Sto) (e : Nat → Nat), zb z - b < nX → (b ≤ zb z) → (CRj S5 q (gT g) w z) → (Gro S S5 ∧ OutM S q S5 ∧ Top S5 q) → (RtV S5 q (setR w e) z b) → Wk pX l eX (rmK 6 40 360) sX mX argsX belowX methX cX (MQ belowX (QcG g (P_X4_join S q w0 z0 tt)) argsX sX 40 360 (ge (gB g))) g 5 b (9 * b) 105 [(0, .ref (q 3)), (1, .int (iI (zC z0))), (2, .int (iI (b : Int)))] [] S5 := by
                intro nX
                induction nX with
                | zero => intro b S5 e hm; exact absurd hm (Nat.not_lt_zero _)
                | succ nX ih105 =>
                  intro b S5 e hm105 hb hC5 hI5 hR5
                  refine KRg (fun hR => ?_)
                  have hTo := hT
                  have hT : Top S5 q := hI5.2.2
                  have hCj : CRj S5 q (gT g) w z := hC5
                  obtain ⟨hWh, hBk, hOr, hBt, hBV, hz⟩ := id hCj
                  have hn5 := hBt.1.2.2.2.1
                  have hn60 := hBt.1.2.2.2.2.1
                  obtain ⟨e10, e11, e12, e6, -, e04, -⟩ := id hWh
                  have hC := hW.1
                  have hCf : Cf S5 q := ⟨by omega, by omega, by omega, by omega, by omega, by omega⟩
                  have ho40 := hW.2.1
                  refine KIload_n C dX4_join_105 rfl 2 rfl ?_
                  refine KAload_n C dX4_join_106 rfl 0 rfl ?_
                  refine KGetR (S := S5) C ul_X4 rfl (by decide) 1 1 rfl (by decide) rfl u_fl_RX4_12 (hT.at0 3 5) (b := q 5) (hT.ptr 3 1 5) dX4_join_107 (fun _ h => h) ?_
                  refine KCallV (As := []) (b := q 5) (st := [.int (iI (b : Int))]) C (ct_Jx4a65c_size_8abf5 l g S5 (q 5) (w5 w) (k5 w) (zb z) hBt.1) u_ml_RX4_31 u_im_yJx4a65c_size_8abf5 u_se_yJx4a65c_size_8abf5 u_in_RJx4a65c u_co_yJx4a65c_size_8abf5 hd_yJx4a65c_size_8abf5 (hT.at0 5 0) (by decide) rfl rfl ⟨Nat.le_of_ble_eq_true rfl, Nat.le_of_ble_eq_true rfl⟩ ⟨by show b + 0 ≤ 40; omega, by show 9 * b + 0 ≤ 360; omega⟩ (Nat.le_of_ble_eq_true rfl) dX4_join_110 rfl (fun v110 u110 hp110 => ?_)
                  obtain ⟨rfl, rfl⟩ := hp110
                  refine KSt (st2 := [.int (iI ((zb z) : Int)), .int (iI (b : Int))]) rfl ?_
                  refine KRg (fun hR => ?_)
                  refine KIcmp_ge (tgt := 149) C dX4_join_113 (by decide) ⟨by omega, by omega⟩ ⟨by omega, by omega⟩ (fun c113 => ?_) (fun c113 => ?_)
                  · refine KVret C rfl (by
                      refine ⟨⟨hI5.1, hI5.2.2, hI5.2.1, setR w e, ?_⟩, rfl⟩
                      rw [← hzf8, htt]
                      exact CRj.w (w := setR w e) hCj ((show b = zb z by omega) ▸ hR5)) (by first | decide | omega) (by first | decide | omega) dX4_join_149
                  · refine KAload_n C dX4_join_116 rfl 0 rfl ?_
                    refine KGetR (S := S5) C ul_X4 rfl (by decide) 1 1 rfl (by decide) rfl u_fl_RX4_12 (hT.at0 3 5) (b := q 5) (hT.ptr 3 1 5) dX4_join_117 (fun _ h => h) ?_
                    refine KIload_n C dX4_join_120 rfl 2 rfl ?_
                    refine KCallV (As := [.int (iI (b : Int))]) (b := q 5) (st := []) C (ct_Jx4a65c_get_915e3 l g S5 (q 5) (w5 w) (k5 w) (zb z) hBt.1 b (wb w b) (by omega) ((hBt.2.1 b (by omega)).1)) u_ml_RX4_63 u_im_yJx4a65c_get_915e3 u_se_yJx4a65c_get_915e3 u_in_RJx4a65c u_co_yJx4a65c_get_915e3 hd_yJx4a65c_get_915e3 (hT.at0 5 0) (by decide) rfl rfl ⟨Nat.le_of_ble_eq_true rfl, Nat.le_of_ble_eq_true rfl⟩ ⟨by show b + 0 ≤ 40; omega, by show 9 * b + 0 ≤ 360; omega⟩ (Nat.le_of_ble_eq_true rfl) dX4_join_121 rfl (fun v121 u121 hp121 => ?_)
                    obtain ⟨rfl, rfl⟩ := hp121
                    refine KSt (st2 := [.ref (wb w b)]) rfl ?_
                    refine KRg (fun hR => ?_)
                    refine KCast C u_cl_RX4_35 (hBt.2.1 b (by omega)).2 (by decide) rfl rfl dX4_join_124 ?_
                    refine KAstore_n (lv' := [(3, .ref (wb w b)), (0, .ref (q 3)), (1, .int (iI (zC z0))), (2, .int (iI (b : Int)))]) C dX4_join_127 rfl (by decide) rfl ?_
                    refine KAload_n C dX4_join_128 rfl 0 rfl ?_
                    refine KAload_n C dX4_join_129 rfl 1 rfl ?_
                    refine KGetR (S := S5) C ul_X4 rfl (by decide) 0 0 rfl (by decide) rfl u_fl_RX4_23 (hT.at0 3 5) (b := q 2) (hT.ptr 3 0 2) dX4_join_130 (fun _ h => h) ?_
                    refine KAload_n C dX4_join_133 rfl 0 rfl ?_
                    refine KGetIN (S := S5) C ul_X0 rfl (by decide) 2 2 rfl (by decide) rfl n_fn_RX4_67 (hBt.2.1 b (by omega)).2 (v := ((zpd z (b : Int) : Nat) : Int)) (hBV.1 b (by omega)).2.1 dX4_join_134 (fun _ h => h) ?_
                    refine KCallV (As := [.int (iI ((zpd z (b : Int) : Nat) : Int))]) (b := q 2) (st := [.ref (wb w b)]) C (ct_X2_bestRoute l g S5 q (zpd z (b : Int)) hT hCf (by rw [e11, e6]; exact hW.okB (hW.lnB (by omega))) hz) u_ml_RX4_68 u_im_yX2_bestRoute u_se_yX2_bestRoute u_in_RX2 u_co_yX2_bestRoute hd_yX2_bestRoute (hT.at0 2 3) (by decide) rfl rfl ⟨Nat.le_of_ble_eq_true rfl, Nat.le_of_ble_eq_true rfl⟩ ⟨by show b + 1 ≤ 40; omega, by show 9 * b + 9 ≤ 360; omega⟩ (Nat.le_of_ble_eq_true rfl) dX4_join_137 rfl (fun v137 u137 hp137 => ?_)
                    obtain ⟨a137, f137, rfl, ha137, rfl, hK137, hz137, hrt137⟩ := hp137
                    refine KSt (st2 := [.ref a137, .ref (wb w b)]) rfl ?_
                    refine KRg (fun hR => ?_)
                    obtain ⟨hF9, hO9, hT9⟩ := best_fra (n := (sll S5 q (zpd z (b : Int))).length) hT ha137 hK137 hz137
                    have hCj9 := hCj.fra hT hF9
                    have hBt := hCj9.2.2.2.1
                    refine KPutRN (S := wI (nw S5 a137 20 (sll S5 q (zpd z (b : Int))).length) f137) (ty := (.array .int)) C ul_X0 rfl (by decide) 5 5 rfl (by decide) rfl n_fn_RX4_72 tyX0 tyX0_ok nmX0 (hBt.2.1 b (by omega)).2 (by decide +kernel) rfl rfl rfl dX4_join_140 (fun _ h => h) ?_
                    obtain ⟨p1, p2, p3, p4, p5⟩ := rt_put hT hCj (by omega) ha137 hK137 hz137 hrt137 hR5
                    refine KIinc (v := ((b + 1 : Nat) : Int)) (lv' := [(2, .int (iI ((b + 1 : Nat) : Int))), (3, .ref (wb w b)), (0, .ref (q 3)), (1, .int (iI (zC z0)))]) C dX4_join_143 3 rfl (by omega) (by decide) rfl ?_
                    refine KGoto (tgt := 105) C dX4_join_146 (by decide) ?_
                    refine KWiden (k := b + 1) (n := 9 * (b + 1)) (by omega) (by omega) ?_
                    refine KLv (lv' := [(0, .ref (q 3)), (1, .int (iI (zC z0))), (2, .int (iI ((b + 1 : Nat) : Int)))]) [2, 3, 0] rfl ?_
                    exact ih105 (b + 1) (uP (wI (nw S5 a137 20 (sll S5 q (zpd z (b : Int))).length) f137) (wb w b) 5 (some a137)) (setE e b a137) (by omega) (by omega) p1 ⟨hI5.1.trans p2, hI5.2.1.trans p3, p4⟩ p5
              exact loop105 _ 0 S3 (fun _ => 0) (Nat.lt_succ_self _) (by omega) hCj hI3 (fun b h9 => absurd h9 (Nat.not_lt_zero _))
            · refine KAload_n C dX4_join_55 rfl 0 rfl ?_
              refine KCallV (As := []) (b := q 3) (st := []) C (ct_X4_joinBestPair l g S3 q w z hT hW hCj hTb3 (gT g) rfl) u_ml_RX4_60 u_im_yX4_joinBestPair u_se_yX4_joinBestPair u_in_RX4 u_co_yX4_joinBestPair hd_yX4_joinBestPair (hT.at0 3 5) (by decide) rfl rfl ⟨Nat.le_of_ble_eq_true rfl, Nat.le_of_ble_eq_true rfl⟩ ⟨Nat.le_of_ble_eq_true rfl, Nat.le_of_ble_eq_true rfl⟩ (Nat.le_of_ble_eq_true rfl) dX4_join_56 rfl (fun v56 u56 hp56 => ?_)
              obtain ⟨hj56, rfl, rfl⟩ | ⟨x56, y56, M56, N56, hxy56, hyn56, hzj56, hsv56, rfl, hM56, hN56, hrem56⟩ := hp56
              · refine KSt (st2 := [.int (iI (-1))]) rfl ?_
                have hnj := hj56
                refine KIstore_n (lv' := [(3, .int (iI (-1))), (0, .ref (q 3)), (1, .int (iI (zC z0))), (2, .int (iI (k : Int)))]) C dX4_join_59 rfl (by decide) rfl ?_
                refine KIload_n C dX4_join_60 rfl 0 rfl ?_
                refine KIconst C dX4_join_61 ?_
                refine KIcmp_ne (tgt := 68) C dX4_join_62 (by decide) ⟨by omega, by omega⟩ ⟨by omega, by omega⟩ (fun h => absurd h (by decide)) (fun _ => ?_)
                refine KGoto (tgt := 103) C dX4_join_65 (by decide) ?_
                refine KIconst C dX4_join_103 ?_
                refine KIstore_n (lv' := [(2, .int (iI 0)), (3, .int (iI (-1))), (0, .ref (q 3)), (1, .int (iI (zC z0)))]) C dX4_join_104 rfl (by decide) rfl ?_
                have hzf8 : z = zjn z0 := (zjn_end hnj).symm.trans hzf
                refine KLv (lv' := [(0, .ref (q 3)), (1, .int (iI (zC z0))), (2, .int (iI 0))]) [2, 3, 0] rfl ?_
                refine KWiden (k := 0) (n := 9 * 0) (by omega) (by omega) ?_
                have loop105 : ∀ (nX : Nat) (b : Nat) (S5 : Sto) (e : Nat → Nat), zb z - b < nX → (b ≤ zb z) → (CRj S5 q (gT g) w z) → (Gro S S5 ∧ OutM S q S5 ∧ Top S5 q) → (RtV S5 q (setR w e) z b) → Wk pX l eX (rmK 6 40 360) sX mX argsX belowX methX cX (MQ belowX (QcG g (P_X4_join S q w0 z0 tt)) argsX sX 40 360 (ge (gB g))) g 5 b (9 * b) 105 [(0, .ref (q 3)), (1, .int (iI (zC z0))), (2, .int (iI (b : Int)))] [] S5 := by
                  intro nX
                  induction nX with
                  | zero => intro b S5 e hm; exact absurd hm (Nat.not_lt_zero _)
                  | succ nX ih105 =>
                    intro b S5 e hm105 hb hC5 hI5 hR5
                    refine KRg (fun hR => ?_)
                    have hTo := hT
                    have hT : Top S5 q := hI5.2.2
                    have hCj : CRj S5 q (gT g) w z := hC5
                    obtain ⟨hWh, hBk, hOr, hBt, hBV, hz⟩ := id hCj
                    have hn5 := hBt.1.2.2.2.1
                    have hn60 := hBt.1.2.2.2.2.1
                    obtain ⟨e10, e11, e12, e6, -, e04, -⟩ := id hWh
                    have hC := hW.1
                    have hCf : Cf S5 q := ⟨by omega, by omega, by omega, by omega, by omega, by omega⟩
                    have ho40 := hW.2.1
                    refine KIload_n C dX4_join_105 rfl 2 rfl ?_
                    refine KAload_n C dX4_join_106 rfl 0 rfl ?_
                    refine KGetR (S := S5) C ul_X4 rfl (by decide) 1 1 rfl (by decide) rfl u_fl_RX4_12 (hT.at0 3 5) (b := q 5) (hT.ptr 3 1 5) dX4_join_107 (fun _ h => h) ?_
                    refine KCallV (As := []) (b := q 5) (st := [.int (iI (b : Int))]) C (ct_Jx4a65c_size_8abf5 l g S5 (q 5) (w5 w) (k5 w) (zb z) hBt.1) u_ml_RX4_31 u_im_yJx4a65c_size_8abf5 u_se_yJx4a65c_size_8abf5 u_in_RJx4a65c u_co_yJx4a65c_size_8abf5 hd_yJx4a65c_size_8abf5 (hT.at0 5 0) (by decide) rfl rfl ⟨Nat.le_of_ble_eq_true rfl, Nat.le_of_ble_eq_true rfl⟩ ⟨by show b + 0 ≤ 40; omega, by show 9 * b + 0 ≤ 360; omega⟩ (Nat.le_of_ble_eq_true rfl) dX4_join_110 rfl (fun v110 u110 hp110 => ?_)
                    obtain ⟨rfl, rfl⟩ := hp110
                    refine KSt (st2 := [.int (iI ((zb z) : Int)), .int (iI (b : Int))]) rfl ?_
                    refine KRg (fun hR => ?_)
                    refine KIcmp_ge (tgt := 149) C dX4_join_113 (by decide) ⟨by omega, by omega⟩ ⟨by omega, by omega⟩ (fun c113 => ?_) (fun c113 => ?_)
                    · refine KVret C rfl (by
                        refine ⟨⟨hI5.1, hI5.2.2, hI5.2.1, setR w e, ?_⟩, rfl⟩
                        rw [← hzf8, htt]
                        exact CRj.w (w := setR w e) hCj ((show b = zb z by omega) ▸ hR5)) (by first | decide | omega) (by first | decide | omega) dX4_join_149
                    · refine KAload_n C dX4_join_116 rfl 0 rfl ?_
                      refine KGetR (S := S5) C ul_X4 rfl (by decide) 1 1 rfl (by decide) rfl u_fl_RX4_12 (hT.at0 3 5) (b := q 5) (hT.ptr 3 1 5) dX4_join_117 (fun _ h => h) ?_
                      refine KIload_n C dX4_join_120 rfl 2 rfl ?_
                      refine KCallV (As := [.int (iI (b : Int))]) (b := q 5) (st := []) C (ct_Jx4a65c_get_915e3 l g S5 (q 5) (w5 w) (k5 w) (zb z) hBt.1 b (wb w b) (by omega) ((hBt.2.1 b (by omega)).1)) u_ml_RX4_63 u_im_yJx4a65c_get_915e3 u_se_yJx4a65c_get_915e3 u_in_RJx4a65c u_co_yJx4a65c_get_915e3 hd_yJx4a65c_get_915e3 (hT.at0 5 0) (by decide) rfl rfl ⟨Nat.le_of_ble_eq_true rfl, Nat.le_of_ble_eq_true rfl⟩ ⟨by show b + 0 ≤ 40; omega, by show 9 * b + 0 ≤ 360; omega⟩ (Nat.le_of_ble_eq_true rfl) dX4_join_121 rfl (fun v121 u121 hp121 => ?_)
                      obtain ⟨rfl, rfl⟩ := hp121
                      refine KSt (st2 := [.ref (wb w b)]) rfl ?_
                      refine KRg (fun hR => ?_)
                      refine KCast C u_cl_RX4_35 (hBt.2.1 b (by omega)).2 (by decide) rfl rfl dX4_join_124 ?_
                      refine KAstore_n (lv' := [(3, .ref (wb w b)), (0, .ref (q 3)), (1, .int (iI (zC z0))), (2, .int (iI (b : Int)))]) C dX4_join_127 rfl (by decide) rfl ?_
                      refine KAload_n C dX4_join_128 rfl 0 rfl ?_
                      refine KAload_n C dX4_join_129 rfl 1 rfl ?_
                      refine KGetR (S := S5) C ul_X4 rfl (by decide) 0 0 rfl (by decide) rfl u_fl_RX4_23 (hT.at0 3 5) (b := q 2) (hT.ptr 3 0 2) dX4_join_130 (fun _ h => h) ?_
                      refine KAload_n C dX4_join_133 rfl 0 rfl ?_
                      refine KGetIN (S := S5) C ul_X0 rfl (by decide) 2 2 rfl (by decide) rfl n_fn_RX4_67 (hBt.2.1 b (by omega)).2 (v := ((zpd z (b : Int) : Nat) : Int)) (hBV.1 b (by omega)).2.1 dX4_join_134 (fun _ h => h) ?_
                      refine KCallV (As := [.int (iI ((zpd z (b : Int) : Nat) : Int))]) (b := q 2) (st := [.ref (wb w b)]) C (ct_X2_bestRoute l g S5 q (zpd z (b : Int)) hT hCf (by rw [e11, e6]; exact hW.okB (hW.lnB (by omega))) hz) u_ml_RX4_68 u_im_yX2_bestRoute u_se_yX2_bestRoute u_in_RX2 u_co_yX2_bestRoute hd_yX2_bestRoute (hT.at0 2 3) (by decide) rfl rfl ⟨Nat.le_of_ble_eq_true rfl, Nat.le_of_ble_eq_true rfl⟩ ⟨by show b + 1 ≤ 40; omega, by show 9 * b + 9 ≤ 360; omega⟩ (Nat.le_of_ble_eq_true rfl) dX4_join_137 rfl (fun v137 u137 hp137 => ?_)
                      obtain ⟨a137, f137, rfl, ha137, rfl, hK137, hz137, hrt137⟩ := hp137
                      refine KSt (st2 := [.ref a137, .ref (wb w b)]) rfl ?_
                      refine KRg (fun hR => ?_)
                      obtain ⟨hF9, hO9, hT9⟩ := best_fra (n := (sll S5 q (zpd z (b : Int))).length) hT ha137 hK137 hz137
                      have hCj9 := hCj.fra hT hF9
                      have hBt := hCj9.2.2.2.1
                      refine KPutRN (S := wI (nw S5 a137 20 (sll S5 q (zpd z (b : Int))).length) f137) (ty := (.array .int)) C ul_X0 rfl (by decide) 5 5 rfl (by decide) rfl n_fn_RX4_72 tyX0 tyX0_ok nmX0 (hBt.2.1 b (by omega)).2 (by decide +kernel) rfl rfl rfl dX4_join_140 (fun _ h => h) ?_
                      obtain ⟨p1, p2, p3, p4, p5⟩ := rt_put hT hCj (by omega) ha137 hK137 hz137 hrt137 hR5
                      refine KIinc (v := ((b + 1 : Nat) : Int)) (lv' := [(2, .int (iI ((b + 1 : Nat) : Int))), (3, .ref (wb w b)), (0, .ref (q 3)), (1, .int (iI (zC z0)))]) C dX4_join_143 3 rfl (by omega) (by decide) rfl ?_
                      refine KGoto (tgt := 105) C dX4_join_146 (by decide) ?_
                      refine KWiden (k := b + 1) (n := 9 * (b + 1)) (by omega) (by omega) ?_
                      refine KLv (lv' := [(0, .ref (q 3)), (1, .int (iI (zC z0))), (2, .int (iI ((b + 1 : Nat) : Int)))]) [2, 3, 0] rfl ?_
                      exact ih105 (b + 1) (uP (wI (nw S5 a137 20 (sll S5 q (zpd z (b : Int))).length) f137) (wb w b) 5 (some a137)) (setE e b a137) (by omega) (by omega) p1 ⟨hI5.1.trans p2, hI5.2.1.trans p3, p4⟩ p5
                exact loop105 _ 0 S3 (fun _ => 0) (Nat.lt_succ_self _) (by omega) hCj hI3 (fun b h9 => absurd h9 (Nat.not_lt_zero _))
              · refine KSt (st2 := [.int (iI (x56 : Int))]) rfl ?_
                refine KRg (fun hR => ?_)
                obtain ⟨hC5, hG5, hO5, hT5, hTb5⟩ := join_fin hT hW hCj hxy56 hyn56 hM56 hN56 hsv56 hrem56
                have hzs := zjn_step (z := z) (by rw [hzj56]; exact hsv56)
                rw [hzj56] at hzs
                have hjo := hW.jo' hxy56 hyn56 (zsv_pos hsv56)
                have hx9 : x56 < zb z - 1 := by omega
                have hkz9 : k + 1 + (zb z - 1) ≤ zb z0 := by omega
                have hTb6 := hTb5 (fun _ _ => True) hTb3
                have hI9 : Gro S u56 ∧ OutM S q u56 := ⟨hI3.1.trans hG5, hI3.2.1.trans hO5⟩
                have hT := hT5
                have hzf9 := hzs.symm.trans hzf
                obtain ⟨w, z, hW, hCj, hTb7, hzf7, hx7, hkz7, hzC⟩ : ∃ (w9 : Shp) (z9 : Sig), Wf z9 ∧ CRj u56 q (gT g) w9 z9 ∧ Tab u56 q w9 z9 (zb z9) (fun a b => a ≠ x56 ∧ b ≠ x56) ∧ zjn z9 = zjn z0 ∧ x56 < zb z9 ∧ k + 1 + zb z9 ≤ zb z0 ∧ zC z0 = zC z9 := ⟨_, _, hjo, hC5, hTb6, hzf9, hx9, hkz9, hzC⟩
                obtain ⟨hWh, hBk, hOr, hBt, hBV, hz⟩ := id hCj
                have hn5 := hBt.1.2.2.2.1
                have hn60 := hBt.1.2.2.2.2.1
                obtain ⟨e10, e11, e12, e6, -, e04, -⟩ := id hWh
                have hC := hW.1
                have hCf : Cf u56 q := ⟨by omega, by omega, by omega, by omega, by omega, by omega⟩
                have ho40 := hW.2.1
                refine KIstore_n (lv' := [(3, .int (iI (x56 : Int))), (0, .ref (q 3)), (1, .int (iI (zC z0))), (2, .int (iI (k : Int)))]) C dX4_join_59 rfl (by decide) rfl ?_
                refine KIload_n C dX4_join_60 rfl 0 rfl ?_
                refine KIconst C dX4_join_61 ?_
                refine KIcmp_ne (tgt := 68) C dX4_join_62 (by decide) ⟨by omega, by omega⟩ ⟨by omega, by omega⟩ (fun c62 => ?_) (fun c62 => absurd c62 (by omega))
                refine KIconst C dX4_join_68 ?_
                refine KIstore (lv' := [(4, .int (iI 0)), (3, .int (iI (x56 : Int))), (0, .ref (q 3)), (1, .int (iI (zC z0))), (2, .int (iI (k : Int)))]) C dX4_join_69 (by decide) rfl ?_
                refine KLv (lv' := [(0, .ref (q 3)), (1, .int (iI (zC z0))), (2, .int (iI (k : Int))), (3, .int (iI (x56 : Int))), (4, .int (iI 0))]) [2, 3, 4, 1, 0] rfl ?_
                have loop71 : ∀ (nX : Nat) (y9 : Nat) (S4 : Sto), zb z - y9 < nX → (y9 ≤ zb z) → (Fra u56 q S4 ∧ OutM u56 q S4 ∧ Top S4 q) → (Tab S4 q w z (zb z) (fun a b => (a ≠ x56 ∧ b ≠ x56) ∨ (a = x56 ∧ b < y9) ∨ (b = x56 ∧ a < y9))) → Wk pX l eX (rmK 6 40 360) sX mX argsX belowX methX cX (MQ belowX (QcG g (P_X4_join S q w0 z0 tt)) argsX sX 40 360 (ge (gB g))) g 5 0 0 71 [(0, .ref (q 3)), (1, .int (iI (zC z0))), (2, .int (iI (k : Int))), (3, .int (iI (x56 : Int))), (4, .int (iI (y9 : Int)))] [] S4 := by
                  intro nX
                  induction nX with
                  | zero => intro y9 S4 hm; exact absurd hm (Nat.not_lt_zero _)
                  | succ nX ih71 =>
                    intro y9 S4 hm71 hy9 hI4 hTb4
                    refine KRg (fun hR => ?_)
                    have hTo := hT
                    have hT : Top S4 q := hI4.2.2
                    have hCj : CRj S4 q (gT g) w z := hCj.fra hTo hI4.1
                    obtain ⟨hWh, hBk, hOr, hBt, hBV, hz⟩ := id hCj
                    have hn5 := hBt.1.2.2.2.1
                    have hn60 := hBt.1.2.2.2.2.1
                    obtain ⟨e10, e11, e12, e6, -, e04, -⟩ := id hWh
                    have hC := hW.1
                    have hCf : Cf S4 q := ⟨by omega, by omega, by omega, by omega, by omega, by omega⟩
                    have ho40 := hW.2.1
                    refine KIload C dX4_join_71 4 rfl ?_
                    refine KAload_n C dX4_join_73 rfl 0 rfl ?_
                    refine KGetR (S := S4) C ul_X4 rfl (by decide) 1 1 rfl (by decide) rfl u_fl_RX4_12 (hT.at0 3 5) (b := q 5) (hT.ptr 3 1 5) dX4_join_74 (fun _ h => h) ?_
                    refine KCallV (As := []) (b := q 5) (st := [.int (iI (y9 : Int))]) C (ct_Jx4a65c_size_8abf5 l g S4 (q 5) (w5 w) (k5 w) (zb z) hBt.1) u_ml_RX4_31 u_im_yJx4a65c_size_8abf5 u_se_yJx4a65c_size_8abf5 u_in_RJx4a65c u_co_yJx4a65c_size_8abf5 hd_yJx4a65c_size_8abf5 (hT.at0 5 0) (by decide) rfl rfl ⟨Nat.le_of_ble_eq_true rfl, Nat.le_of_ble_eq_true rfl⟩ ⟨Nat.le_of_ble_eq_true rfl, Nat.le_of_ble_eq_true rfl⟩ (Nat.le_of_ble_eq_true rfl) dX4_join_77 rfl (fun v77 u77 hp77 => ?_)
                    obtain ⟨rfl, rfl⟩ := hp77
                    refine KSt (st2 := [.int (iI ((zb z) : Int)), .int (iI (y9 : Int))]) rfl ?_
                    refine KRg (fun hR => ?_)
                    refine KIcmp_ge (tgt := 97) C dX4_join_80 (by decide) ⟨by omega, by omega⟩ ⟨by omega, by omega⟩ (fun c80 => ?_) (fun c80 => ?_)
                    · refine KIinc (v := ((k + 1 : Nat) : Int)) (lv' := [(2, .int (iI ((k + 1 : Nat) : Int))), (0, .ref (q 3)), (1, .int (iI (zC z0))), (3, .int (iI (x56 : Int))), (4, .int (iI (y9 : Int)))]) C dX4_join_97 2 rfl (by omega) (by decide) rfl ?_
                      refine KGoto (tgt := 49) C dX4_join_100 (by decide) ?_
                      refine KLv (lv' := [(0, .ref (q 3)), (1, .int (iI (zC z0))), (2, .int (iI ((k + 1 : Nat) : Int)))]) [1, 2, 0] rfl ?_
                      exact ih49 (k + 1) S4 w z (by omega) ⟨by omega, by omega⟩ hW hCj ⟨hI9.1.trans hI4.1.1, hI9.2.trans hI4.2.1, hI4.2.2⟩ (hTb4.of (fun a b ha hb hn hd => (by omega : (a ≠ x56 ∧ b ≠ x56) ∨ (a = x56 ∧ b < y9) ∨ (b = x56 ∧ a < y9)))) hzf7 hzC
                    · refine KAload_n C dX4_join_83 rfl 0 rfl ?_
                      refine KIload_n C dX4_join_84 rfl 3 rfl ?_
                      refine KIload C dX4_join_85 4 rfl ?_
                      refine KIload_n C dX4_join_87 rfl 1 rfl ?_
                      refine KCallV (As := [.int (iI (x56 : Int)), .int (iI (y9 : Int)), .int (iI (zC z0))]) (b := q 3) (st := []) C (ct_X4_noteSaving l g S4 q x56 y9 w z hT hW hCj (by omega) (by omega) (zC z0) hzC) u_ml_RX4_56 u_im_yX4_noteSaving u_se_yX4_noteSaving u_in_RX4 u_co_yX4_noteSaving hd_yX4_noteSaving (hT.at0 3 5) (by decide) rfl rfl ⟨Nat.le_of_ble_eq_true rfl, Nat.le_of_ble_eq_true rfl⟩ ⟨Nat.le_of_ble_eq_true rfl, Nat.le_of_ble_eq_true rfl⟩ (Nat.le_of_ble_eq_true rfl) dX4_join_88 rfl (fun v88 u88 hp88 => ?_)
                      obtain ⟨rfl, hNt88⟩ := hp88
                      refine KSt (st2 := []) rfl ?_
                      refine KRg (fun hR => ?_)
                      refine KIinc (v := ((y9 + 1 : Nat) : Int)) (lv' := [(4, .int (iI ((y9 + 1 : Nat) : Int))), (0, .ref (q 3)), (1, .int (iI (zC z0))), (2, .int (iI (k : Int))), (3, .int (iI (x56 : Int)))]) C dX4_join_91 4 rfl (by omega) (by decide) rfl ?_
                      refine KGoto (tgt := 71) C dX4_join_94 (by decide) ?_
                      refine KLv (lv' := [(0, .ref (q 3)), (1, .int (iI (zC z0))), (2, .int (iI (k : Int))), (3, .int (iI (x56 : Int))), (4, .int (iI ((y9 + 1 : Nat) : Int)))]) [1, 2, 3, 4, 0] rfl ?_
                      exact ih71 (y9 + 1) u88 (by omega) (by omega) ⟨hI4.1.trans hNt88.1, hI4.2.1.trans hNt88.2.1, hNt88.2.2.1⟩ ((hNt88.2.2.2 _ hTb4).of (fun a b ha hb hn (hd : (a ≠ x56 ∧ b ≠ x56) ∨ (a = x56 ∧ b < (y9 + 1)) ∨ (b = x56 ∧ a < (y9 + 1))) => (by omega : ((a ≠ x56 ∧ b ≠ x56) ∨ (a = x56 ∧ b < y9) ∨ (b = x56 ∧ a < y9)) ∨ (a = x56 ∧ b = y9) ∨ (a = y9 ∧ b = x56))))
                exact loop71 _ 0 u56 (Nat.lt_succ_self _) (by omega) ⟨Fra.refl hz, OutM.refl, hT⟩ (hTb7.of (fun a b ha hb hn (hd : (a ≠ x56 ∧ b ≠ x56) ∨ (a = x56 ∧ b < 0) ∨ (b = x56 ∧ a < 0)) => (by omega : a ≠ x56 ∧ b ≠ x56)))
        exact loop49 _ 0 S1 w z (Nat.lt_succ_self _) ⟨by omega, by rw [hz0]; omega⟩ hW hCj ⟨hI.1.1, hI.2.1, hI.2.2⟩ (hTb.of (fun a b ha hb hn hd => (by omega : a < i ∨ b < i))) (by rw [hz0]) (by rw [hz0])
      · refine KIload_n C dX4_join_13 rfl 2 rfl ?_
        refine KIconst C dX4_join_14 ?_
        refine KIadd C dX4_join_15 ?_
        refine KTop (congrArg iI (show (i : Int) + 1 = ((i + 1 : Nat) : Int) from (by omega))) ?_
        refine KIstore_n (lv' := [(3, .int (iI ((i + 1 : Nat) : Int))), (0, .ref (q 3)), (1, .int (iI (zC z0))), (2, .int (iI (i : Int)))]) C dX4_join_16 rfl (by decide) rfl ?_
        refine KLv (lv' := [(0, .ref (q 3)), (1, .int (iI (zC z0))), (2, .int (iI (i : Int))), (3, .int (iI ((i + 1 : Nat) : Int)))]) [1, 2, 3, 0] rfl ?_
        have loop17 : ∀ (nX : Nat) (j : Nat) (S2 : Sto), zb z - j < nX → (i < j ∧ j ≤ zb z) → (Fra S q S2 ∧ OutM S q S2 ∧ Top S2 q) → (Tab S2 q w z (zb z) (fun a b => a < i ∨ b < i ∨ (a = i ∧ b < j) ∨ (b = i ∧ a < j))) → Wk pX l eX (rmK 6 40 360) sX mX argsX belowX methX cX (MQ belowX (QcG g (P_X4_join S q w0 z0 tt)) argsX sX 40 360 (ge (gB g))) g 5 0 0 17 [(0, .ref (q 3)), (1, .int (iI (zC z0))), (2, .int (iI (i : Int))), (3, .int (iI (j : Int)))] [] S2 := by
          intro nX
          induction nX with
          | zero => intro j S2 hm; exact absurd hm (Nat.not_lt_zero _)
          | succ nX ih17 =>
            intro j S2 hm17 hij hI2 hTb2
            refine KRg (fun hR => ?_)
            obtain ⟨hij1, hij2⟩ := hij
            have hTo := hT
            have hT : Top S2 q := hI2.2.2
            have hCj : CRj S2 q (gT g) w z := hCjb.fra hTb0 hI2.1
            obtain ⟨hWh, hBk, hOr, hBt, hBV, hz⟩ := id hCj
            have hn5 := hBt.1.2.2.2.1
            have hn60 := hBt.1.2.2.2.2.1
            obtain ⟨e10, e11, e12, e6, -, e04, -⟩ := id hWh
            have hC := hW.1
            have hCf : Cf S2 q := ⟨by omega, by omega, by omega, by omega, by omega, by omega⟩
            have ho40 := hW.2.1
            refine KIload_n C dX4_join_17 rfl 3 rfl ?_
            refine KAload_n C dX4_join_18 rfl 0 rfl ?_
            refine KGetR (S := S2) C ul_X4 rfl (by decide) 1 1 rfl (by decide) rfl u_fl_RX4_12 (hT.at0 3 5) (b := q 5) (hT.ptr 3 1 5) dX4_join_19 (fun _ h => h) ?_
            refine KCallV (As := []) (b := q 5) (st := [.int (iI (j : Int))]) C (ct_Jx4a65c_size_8abf5 l g S2 (q 5) (w5 w) (k5 w) (zb z) hBt.1) u_ml_RX4_31 u_im_yJx4a65c_size_8abf5 u_se_yJx4a65c_size_8abf5 u_in_RJx4a65c u_co_yJx4a65c_size_8abf5 hd_yJx4a65c_size_8abf5 (hT.at0 5 0) (by decide) rfl rfl ⟨Nat.le_of_ble_eq_true rfl, Nat.le_of_ble_eq_true rfl⟩ ⟨Nat.le_of_ble_eq_true rfl, Nat.le_of_ble_eq_true rfl⟩ (Nat.le_of_ble_eq_true rfl) dX4_join_22 rfl (fun v22 u22 hp22 => ?_)
            obtain ⟨rfl, rfl⟩ := hp22
            refine KSt (st2 := [.int (iI ((zb z) : Int)), .int (iI (j : Int))]) rfl ?_
            refine KRg (fun hR => ?_)
            refine KIcmp_ge (tgt := 41) C dX4_join_25 (by decide) ⟨by omega, by omega⟩ ⟨by omega, by omega⟩ (fun c25 => ?_) (fun c25 => ?_)
            · refine KIinc (v := ((i + 1 : Nat) : Int)) (lv' := [(2, .int (iI ((i + 1 : Nat) : Int))), (0, .ref (q 3)), (1, .int (iI (zC z0))), (3, .int (iI (j : Int)))]) C dX4_join_41 2 rfl (by omega) (by decide) rfl ?_
              refine KGoto (tgt := 2) C dX4_join_44 (by decide) ?_
              refine KLv (lv' := [(0, .ref (q 3)), (1, .int (iI (zC z0))), (2, .int (iI ((i + 1 : Nat) : Int)))]) [1, 2, 0] rfl ?_
              exact ih2 (i + 1) S2 (by omega) (by omega) hI2 (hTb2.of (fun a b ha hb hn (hd : a < i + 1 ∨ b < i + 1) => (by omega : a < i ∨ b < i ∨ (a = i ∧ b < j) ∨ (b = i ∧ a < j))))
            · refine KAload_n C dX4_join_28 rfl 0 rfl ?_
              refine KIload_n C dX4_join_29 rfl 2 rfl ?_
              refine KIload_n C dX4_join_30 rfl 3 rfl ?_
              refine KIload_n C dX4_join_31 rfl 1 rfl ?_
              refine KCallV (As := [.int (iI (i : Int)), .int (iI (j : Int)), .int (iI (zC z0))]) (b := q 3) (st := []) C (ct_X4_noteSaving l g S2 q i j w z hT hW hCj (by omega) (by omega) (zC z0) (by rw [hz0])) u_ml_RX4_56 u_im_yX4_noteSaving u_se_yX4_noteSaving u_in_RX4 u_co_yX4_noteSaving hd_yX4_noteSaving (hT.at0 3 5) (by decide) rfl rfl ⟨Nat.le_of_ble_eq_true rfl, Nat.le_of_ble_eq_true rfl⟩ ⟨Nat.le_of_ble_eq_true rfl, Nat.le_of_ble_eq_true rfl⟩ (Nat.le_of_ble_eq_true rfl) dX4_join_32 rfl (fun v32 u32 hp32 => ?_)
              obtain ⟨rfl, hNt32⟩ := hp32
              refine KSt (st2 := []) rfl ?_
              refine KRg (fun hR => ?_)
              refine KIinc (v := ((j + 1 : Nat) : Int)) (lv' := [(3, .int (iI ((j + 1 : Nat) : Int))), (0, .ref (q 3)), (1, .int (iI (zC z0))), (2, .int (iI (i : Int)))]) C dX4_join_35 3 rfl (by omega) (by decide) rfl ?_
              refine KGoto (tgt := 17) C dX4_join_38 (by decide) ?_
              refine KLv (lv' := [(0, .ref (q 3)), (1, .int (iI (zC z0))), (2, .int (iI (i : Int))), (3, .int (iI ((j + 1 : Nat) : Int)))]) [1, 2, 3, 0] rfl ?_
              exact ih17 (j + 1) u32 (by omega) ⟨by omega, by omega⟩ ⟨hI2.1.trans hNt32.1, hI2.2.1.trans hNt32.2.1, hNt32.2.2.1⟩ ((hNt32.2.2.2 _ hTb2).of (fun a b ha hb hn (hd : a < i ∨ b < i ∨ (a = i ∧ b < (j + 1)) ∨ (b = i ∧ a < (j + 1))) => (by omega : (a < i ∨ b < i ∨ (a = i ∧ b < j) ∨ (b = i ∧ a < j)) ∨ (a = i ∧ b = j) ∨ (a = j ∧ b = i))))
        exact loop17 _ (i + 1) S1 (Nat.lt_succ_self _) ⟨by omega, by omega⟩ hI (hTb.of (fun a b ha hb hn (hd : a < i ∨ b < i ∨ (a = i ∧ b < (i + 1)) ∨ (b = i ∧ a < (i + 1))) => (by omega : a < i ∨ b < i)))
  exact loop2 _ 0 S (Nat.lt_succ_self _) (by omega) ⟨Fra.refl hz, OutM.refl, hT⟩ (fun a b _ _ _ hd => by rcases hd with h9 | h9 <;> exact absurd h9 (Nat.not_lt_zero _))
