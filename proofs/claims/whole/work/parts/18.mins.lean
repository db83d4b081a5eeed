def P_X6_ranks (S : Sto) (q : Nat → Nat) (x : Int) (n : Nat) : Option Value → Sto → Prop := fun v u => v = none ∧ u = wI S (row1 (sI S) (q 91) (insAt (sI S (q 91)) (insPosN (fun j => decide (ztv (sgM S q) (sI S (q 91) (j : Int)) < ztv (sgM S q) x)) n) n x))
set_option maxRecDepth 100000 in
set_option maxHeartbeats 4000000 in
theorem ct_X6_ranks (l : Launch) (g : GG) (S : Sto) (q : Nat → Nat) (x : Int) (n : Nat) (hT : Top S q) (hWq : Wq (sgM S q)) (hCn : Cn S q) (hx : 0 ≤ x ∧ x < 20) (hn : n < 20) (hF : ∀ j : Nat, j < n → 0 ≤ sI S (q 91) (j : Int) ∧ sI S (q 91) (j : Int) < 20) : MetS l g yX6_ranks cX6_ranks 4 (none) 2 0 0 [.ref (q 80), .int (iI x), .int (iI (n : Int))] S (P_X6_ranks S q x n) := by
  refine MetS.of (own := RX6) (lv := [(0, .ref (q 80)), (1, .int (iI x)), (2, .int (iI (n : Int)))]) (by decide) rfl (Nat.le_of_ble_eq_true rfl) rfl ?_
  intro pX eX sX mX argsX belowX methX cX C hin
  refine KRg (fun hR => ?_)
  have ho40 := hWq.1.1
  refine KIload_n C dX6_ranks_0 rfl 2 rfl ?_
  refine KIstore_n (lv' := [(3, .int (iI (n : Int))), (0, .ref (q 80)), (1, .int (iI x)), (2, .int (iI (n : Int)))]) C dX6_ranks_1 rfl (by decide) rfl ?_
  refine KSto (S2 := wI S (row1 (sI S) (q 91) (shf (sI S (q 91)) n n))) (by rw [shf_self, row1_self]) ?_
  refine KLv (lv' := [(0, .ref (q 80)), (1, .int (iI x)), (2, .int (iI (n : Int))), (3, .int (iI (n : Int)))]) [1, 2, 3, 0] rfl ?_
  have loop2 : ∀ (nX : Nat) (a : Nat), a < nX → (a ≤ n) → (insPosN (fun j => decide (ztv (sgM S q) (sI S (q 91) (j : Int)) < ztv (sgM S q) x)) n = insPosN (fun j => decide (ztv (sgM S q) (sI S (q 91) (j : Int)) < ztv (sgM S q) x)) a) → Wk pX l eX (rmK 2 0 0) sX mX argsX belowX methX cX (MQ belowX (QcG g (P_X6_ranks S q x n)) argsX sX 0 0 (ge (gB g))) g 4 0 0 2 [(0, .ref (q 80)), (1, .int (iI x)), (2, .int (iI (n : Int))), (3, .int (iI (a : Int)))] [] (wI S (row1 (sI S) (q 91) (shf (sI S (q 91)) a n))) := by
    intro nX
    induction nX with
    | zero => intro a hm; exact absurd hm (Nat.not_lt_zero _)
    | succ nX ih2 =>
      intro a hm2 ha hpos
      refine KRg (fun hR => ?_)
      have hs91 : sgM (wI S (row1 (sI S) (q 91) (shf (sI S (q 91)) a n))) q = sgM S q := sgM_row hT 91 _
      refine KIload_n C dX6_ranks_2 rfl 3 rfl ?_
      refine KIf_le (tgt := 46) C dX6_ranks_3 (by decide) ⟨by omega, by omega⟩ (fun c3 => ?_) (fun c3 => ?_)
      · have e9 : insPosN (fun j => decide (ztv (sgM S q) (sI S (q 91) (j : Int)) < ztv (sgM S q) x)) n = a := hpos.trans (insPosN_f' (Or.inl (by omega)))
        refine KAload_n C dX6_ranks_46 rfl 0 rfl ?_
        refine KGetR (S := wI S (row1 (sI S) (q 91) (shf (sI S (q 91)) a n))) C ul_X6 rfl (by decide) 20 20 rfl (by decide) rfl u_fl_RX6_44 (hT.at0 80 7) (b := q 91) (hT.ptr 80 20 91) dX6_ranks_47 (fun _ h => h) ?_
        refine KIload_n C dX6_ranks_50 rfl 3 rfl ?_
        refine KIload_n C dX6_ranks_51 rfl 1 rfl ?_
        refine KIast (S := wI S (row1 (sI S) (q 91) (shf (sI S (q 91)) a n))) C 20 (hT.at0 91 20) (hT.ln0 91 20) ⟨by omega, by omega⟩ (by omega) ⟨by omega, by omega⟩ dX6_ranks_52 ?_
        refine KSto (S2 := wI S (row1 (sI S) (q 91) (insAt (sI S (q 91)) (insPosN (fun j => decide (ztv (sgM S q) (sI S (q 91) (j : Int)) < ztv (sgM S q) x)) n) n x))) (by rw [e9]; exact congrArg (wI S) (up2_row1 _ _ _ _ _)) ?_
        refine KVret C rfl (by
          exact ⟨rfl, rfl⟩) (by decide) (by decide) dX6_ranks_53
      · have hFa := hF (a - 1) (by omega)
        refine KAload_n C dX6_ranks_6 rfl 0 rfl ?_
        refine KAload_n C dX6_ranks_7 rfl 0 rfl ?_
        refine KGetR (S := wI S (row1 (sI S) (q 91) (shf (sI S (q 91)) a n))) C ul_X6 rfl (by decide) 20 20 rfl (by decide) rfl u_fl_RX6_44 (hT.at0 80 7) (b := q 91) (hT.ptr 80 20 91) dX6_ranks_8 (fun _ h => h) ?_
        refine KIload_n C dX6_ranks_11 rfl 3 rfl ?_
        refine KIconst C dX6_ranks_12 ?_
        refine KIsub C dX6_ranks_13 ?_
        refine KTop (congrArg iI (show (a : Int) - 1 = ((a - 1 : Nat) : Int) from (by omega))) ?_
        refine KIald (S := wI S (row1 (sI S) (q 91) (shf (sI S (q 91)) a n)))  (v := sI S (q 91) ((a - 1 : Nat) : Int)) C 20 (hT.at0 91 20) (hT.ln0 91 20) ⟨by omega, by omega⟩ (by omega) ((row1_same _ _ _ _).trans (shf_lo _ (by omega))) dX6_ranks_14 ?_
        have rb1 := hR.b (q 91) ((a - 1 : Nat) : Int) (v := sI S (q 91) ((a - 1 : Nat) : Int)) ((row1_same _ _ _ _).trans (shf_lo _ (by omega)))
        refine KCallV (As := [.int (iI (sI S (q 91) ((a - 1 : Nat) : Int)))]) (b := q 80) (st := []) C (ct_X6_turnoverOf l g (wI S (row1 (sI S) (q 91) (shf (sI S (q 91)) a n))) q (sI S (q 91) ((a - 1 : Nat) : Int)) hT (by rw [hs91]; exact hWq) (Cn.row hT 91 _ hCn) (by omega)) u_ml_RX6_98 u_im_yX6_turnoverOf u_se_yX6_turnoverOf u_in_RX6 u_co_yX6_turnoverOf hd_yX6_turnoverOf (hT.at0 80 7) (by decide) rfl rfl ⟨Nat.le_of_ble_eq_true rfl, Nat.le_of_ble_eq_true rfl⟩ ⟨Nat.le_of_ble_eq_true rfl, Nat.le_of_ble_eq_true rfl⟩ (Nat.le_of_ble_eq_true rfl) dX6_ranks_15 rfl (fun v15 u15 hp15 => ?_)
        obtain ⟨rfl, rfl⟩ := hp15
        refine KSt (st2 := [.int (iI (ztv (sgM (wI S (row1 (sI S) (q 91) (shf (sI S (q 91)) a n))) q) (sI S (q 91) ((a - 1 : Nat) : Int))))]) rfl ?_
        refine KRg (fun hR => ?_)
        refine KTop (congrArg iI (show ztv (sgM (wI S (row1 (sI S) (q 91) (shf (sI S (q 91)) a n))) q) (sI S (q 91) ((a - 1 : Nat) : Int)) = ztv (sgM S q) (sI S (q 91) ((a - 1 : Nat) : Int)) from (by rw [hs91]))) ?_
        have ht1 := tv_b hWq (sI S (q 91) ((a - 1 : Nat) : Int)) (zo (sgM S q)) (Nat.le_refl _)
        change 0 ≤ ztv (sgM S q) (sI S (q 91) ((a - 1 : Nat) : Int)) ∧ ztv (sgM S q) (sI S (q 91) ((a - 1 : Nat) : Int)) ≤ _ at ht1
        refine KAload_n C dX6_ranks_18 rfl 0 rfl ?_
        refine KIload_n C dX6_ranks_19 rfl 1 rfl ?_
        refine KCallV (As := [.int (iI x)]) (b := q 80) (st := [.int (iI (ztv (sgM S q) (sI S (q 91) ((a - 1 : Nat) : Int))))]) C (ct_X6_turnoverOf l g (wI S (row1 (sI S) (q 91) (shf (sI S (q 91)) a n))) q x hT (by rw [hs91]; exact hWq) (Cn.row hT 91 _ hCn) (by omega)) u_ml_RX6_98 u_im_yX6_turnoverOf u_se_yX6_turnoverOf u_in_RX6 u_co_yX6_turnoverOf hd_yX6_turnoverOf (hT.at0 80 7) (by decide) rfl rfl ⟨Nat.le_of_ble_eq_true rfl, Nat.le_of_ble_eq_true rfl⟩ ⟨Nat.le_of_ble_eq_true rfl, Nat.le_of_ble_eq_true rfl⟩ (Nat.le_of_ble_eq_true rfl) dX6_ranks_20 rfl (fun v20 u20 hp20 => ?_)
        obtain ⟨rfl, rfl⟩ := hp20
        refine KSt (st2 := [.int (iI (ztv (sgM (wI S (row1 (sI S) (q 91) (shf (sI S (q 91)) a n))) q) x)), .int (iI (ztv (sgM S q) (sI S (q 91) ((a - 1 : Nat) : Int))))]) rfl ?_
        refine KRg (fun hR => ?_)
        refine KTop (congrArg iI (show ztv (sgM (wI S (row1 (sI S) (q 91) (shf (sI S (q 91)) a n))) q) x = ztv (sgM S q) x from (by rw [hs91]))) ?_
        have ht2 := tv_b hWq x (zo (sgM S q)) (Nat.le_refl _)
        change 0 ≤ ztv (sgM S q) x ∧ ztv (sgM S q) x ≤ _ at ht2
        refine KIcmp_ge (tgt := 46) C dX6_ranks_23 (by decide) ⟨by omega, by omega⟩ ⟨by omega, by omega⟩ (fun c23 => ?_) (fun c23 => ?_)
        · have e9 : insPosN (fun j => decide (ztv (sgM S q) (sI S (q 91) (j : Int)) < ztv (sgM S q) x)) n = a := hpos.trans (insPosN_f' (Or.inr ⟨by omega, decide_eq_false (by omega)⟩))
          refine KAload_n C dX6_ranks_46 rfl 0 rfl ?_
          refine KGetR (S := wI S (row1 (sI S) (q 91) (shf (sI S (q 91)) a n))) C ul_X6 rfl (by decide) 20 20 rfl (by decide) rfl u_fl_RX6_44 (hT.at0 80 7) (b := q 91) (hT.ptr 80 20 91) dX6_ranks_47 (fun _ h => h) ?_
          refine KIload_n C dX6_ranks_50 rfl 3 rfl ?_
          refine KIload_n C dX6_ranks_51 rfl 1 rfl ?_
          refine KIast (S := wI S (row1 (sI S) (q 91) (shf (sI S (q 91)) a n))) C 20 (hT.at0 91 20) (hT.ln0 91 20) ⟨by omega, by omega⟩ (by omega) ⟨by omega, by omega⟩ dX6_ranks_52 ?_
          refine KSto (S2 := wI S (row1 (sI S) (q 91) (insAt (sI S (q 91)) (insPosN (fun j => decide (ztv (sgM S q) (sI S (q 91) (j : Int)) < ztv (sgM S q) x)) n) n x))) (by rw [e9]; exact congrArg (wI S) (up2_row1 _ _ _ _ _)) ?_
          refine KVret C rfl (by
            exact ⟨rfl, rfl⟩) (by decide) (by decide) dX6_ranks_53
        · refine KAload_n C dX6_ranks_26 rfl 0 rfl ?_
          refine KGetR (S := wI S (row1 (sI S) (q 91) (shf (sI S (q 91)) a n))) C ul_X6 rfl (by decide) 20 20 rfl (by decide) rfl u_fl_RX6_44 (hT.at0 80 7) (b := q 91) (hT.ptr 80 20 91) dX6_ranks_27 (fun _ h => h) ?_
          refine KIload_n C dX6_ranks_30 rfl 3 rfl ?_
          refine KAload_n C dX6_ranks_31 rfl 0 rfl ?_
          refine KGetR (S := wI S (row1 (sI S) (q 91) (shf (sI S (q 91)) a n))) C ul_X6 rfl (by decide) 20 20 rfl (by decide) rfl u_fl_RX6_44 (hT.at0 80 7) (b := q 91) (hT.ptr 80 20 91) dX6_ranks_32 (fun _ h => h) ?_
          refine KIload_n C dX6_ranks_35 rfl 3 rfl ?_
          refine KIconst C dX6_ranks_36 ?_
          refine KIsub C dX6_ranks_37 ?_
          refine KTop (congrArg iI (show (a : Int) - 1 = ((a - 1 : Nat) : Int) from (by omega))) ?_
          refine KIald (S := wI S (row1 (sI S) (q 91) (shf (sI S (q 91)) a n)))  (v := sI S (q 91) ((a - 1 : Nat) : Int)) C 20 (hT.at0 91 20) (hT.ln0 91 20) ⟨by omega, by omega⟩ (by omega) ((row1_same _ _ _ _).trans (shf_lo _ (by omega))) dX6_ranks_38 ?_
          have rb2 := hR.b (q 91) ((a - 1 : Nat) : Int) (v := sI S (q 91) ((a - 1 : Nat) : Int)) ((row1_same _ _ _ _).trans (shf_lo _ (by omega)))
          refine KIast (S := wI S (row1 (sI S) (q 91) (shf (sI S (q 91)) a n))) C 20 (hT.at0 91 20) (hT.ln0 91 20) ⟨by omega, by omega⟩ (by omega) ⟨by omega, by omega⟩ dX6_ranks_39 ?_
          refine KSto (S2 := wI S (row1 (sI S) (q 91) (shf (sI S (q 91)) (a - 1) n))) (congrArg (wI S) ((up2_row1 _ _ _ _ _).trans (congrArg _ (shf_step' _ (by omega) ha)))) ?_
          refine KIinc (v := ((a - 1 : Nat) : Int)) (lv' := [(3, .int (iI ((a - 1 : Nat) : Int))), (0, .ref (q 80)), (1, .int (iI x)), (2, .int (iI (n : Int)))]) C dX6_ranks_40 3 rfl (by omega) (by decide) rfl ?_
          refine KGoto (tgt := 2) C dX6_ranks_43 (by decide) ?_
          refine KLv (lv' := [(0, .ref (q 80)), (1, .int (iI x)), (2, .int (iI (n : Int))), (3, .int (iI ((a - 1 : Nat) : Int)))]) [1, 2, 3, 0] rfl ?_
          exact ih2 (a - 1) (by omega) (by omega) (hpos.trans (insPosN_t' (by omega) (decide_eq_true (by first | assumption | omega))))
  exact loop2 _ n (Nat.lt_succ_self _) (by omega) rfl
def P_X6_spreads (S : Sto) (q : Nat → Nat) (x : Int) (n : Nat) : Option Value → Sto → Prop := fun v u => v = none ∧ u = wI S (row1 (sI S) (q 92) (insAt (sI S (q 92)) (insPosN (fun j => decide (dst (sI S (q 80) 2) (sI S (q 80) 3) 0 x < dst (sI S (q 80) 2) (sI S (q 80) 3) 0 (sI S (q 92) (j : Int)) ∨ (dst (sI S (q 80) 2) (sI S (q 80) 3) 0 (sI S (q 92) (j : Int)) = dst (sI S (q 80) 2) (sI S (q 80) 3) 0 x ∧ x < sI S (q 92) (j : Int)))) n) n x))
set_option maxRecDepth 100000 in
set_option maxHeartbeats 4000000 in
theorem ct_X6_spreads (l : Launch) (g : GG) (S : Sto) (q : Nat → Nat) (x : Int) (n : Nat) (hT : Top S q) (hCm : CfM S q) (hx : isPl x ∧ x % 100 ≤ sI S (q 80) 2) (hn : n < 20) (hF : ∀ j : Nat, j < n → isPl (sI S (q 92) (j : Int)) ∧ sI S (q 92) (j : Int) % 100 ≤ sI S (q 80) 2) : MetS l g yX6_spreads cX6_spreads 4 (none) 2 0 0 [.ref (q 80), .int (iI x), .int (iI (n : Int))] S (P_X6_spreads S q x n) := by
  refine MetS.of (own := RX6) (lv := [(0, .ref (q 80)), (1, .int (iI x)), (2, .int (iI (n : Int)))]) (by decide) rfl (Nat.le_of_ble_eq_true rfl) rfl ?_
  intro pX eX sX mX argsX belowX methX cX C hin
  refine KRg (fun hR => ?_)
  obtain ⟨hA1, hA2, hN1, hN2, hG1, hG2⟩ := id hCm
  obtain ⟨⟨hx1, hx2, hx3⟩, hx4⟩ := id hx
  refine KIload_n C dX6_spreads_0 rfl 2 rfl ?_
  refine KIstore_n (lv' := [(3, .int (iI (n : Int))), (0, .ref (q 80)), (1, .int (iI x)), (2, .int (iI (n : Int)))]) C dX6_spreads_1 rfl (by decide) rfl ?_
  refine KSto (S2 := wI S (row1 (sI S) (q 92) (shf (sI S (q 92)) n n))) (by rw [shf_self, row1_self]) ?_
  refine KLv (lv' := [(0, .ref (q 80)), (1, .int (iI x)), (2, .int (iI (n : Int))), (3, .int (iI (n : Int)))]) [1, 2, 3, 0] rfl ?_
  have loop2 : ∀ (nX : Nat) (a : Nat), a < nX → (a ≤ n) → (insPosN (fun j => decide (dst (sI S (q 80) 2) (sI S (q 80) 3) 0 x < dst (sI S (q 80) 2) (sI S (q 80) 3) 0 (sI S (q 92) (j : Int)) ∨ (dst (sI S (q 80) 2) (sI S (q 80) 3) 0 (sI S (q 92) (j : Int)) = dst (sI S (q 80) 2) (sI S (q 80) 3) 0 x ∧ x < sI S (q 92) (j : Int)))) n = insPosN (fun j => decide (dst (sI S (q 80) 2) (sI S (q 80) 3) 0 x < dst (sI S (q 80) 2) (sI S (q 80) 3) 0 (sI S (q 92) (j : Int)) ∨ (dst (sI S (q 80) 2) (sI S (q 80) 3) 0 (sI S (q 92) (j : Int)) = dst (sI S (q 80) 2) (sI S (q 80) 3) 0 x ∧ x < sI S (q 92) (j : Int)))) a) → Wk pX l eX (rmK 2 0 0) sX mX argsX belowX methX cX (MQ belowX (QcG g (P_X6_spreads S q x n)) argsX sX 0 0 (ge (gB g))) g 4 0 0 2 [(0, .ref (q 80)), (1, .int (iI x)), (2, .int (iI (n : Int))), (3, .int (iI (a : Int)))] [] (wI S (row1 (sI S) (q 92) (shf (sI S (q 92)) a n))) := by
    intro nX
    induction nX with
    | zero => intro a hm; exact absurd hm (Nat.not_lt_zero _)
    | succ nX ih2 =>
      intro a hm2 ha hpos
      refine KRg (fun hR => ?_)
      have hCm2 : CfM (wI S (row1 (sI S) (q 92) (shf (sI S (q 92)) a n))) q := hCm.of (row1_ne _ _ _ (hT.ne 80 92)) (row1_ne _ _ _ (hT.ne 80 92)) (row1_ne _ _ _ (hT.ne 80 92))
      refine KIload_n C dX6_spreads_2 rfl 3 rfl ?_
      refine KIf_le (tgt := 82) C dX6_spreads_3 (by decide) ⟨by omega, by omega⟩ (fun c3 => ?_) (fun c3 => ?_)
      · have e9 : insPosN (fun j => decide (dst (sI S (q 80) 2) (sI S (q 80) 3) 0 x < dst (sI S (q 80) 2) (sI S (q 80) 3) 0 (sI S (q 92) (j : Int)) ∨ (dst (sI S (q 80) 2) (sI S (q 80) 3) 0 (sI S (q 92) (j : Int)) = dst (sI S (q 80) 2) (sI S (q 80) 3) 0 x ∧ x < sI S (q 92) (j : Int)))) n = a := hpos.trans (insPosN_f' (Or.inl (by omega)))
        refine KAload_n C dX6_spreads_82 rfl 0 rfl ?_
        refine KGetR (S := wI S (row1 (sI S) (q 92) (shf (sI S (q 92)) a n))) C ul_X6 rfl (by decide) 21 21 rfl (by decide) rfl u_fl_RX6_47 (hT.at0 80 7) (b := q 92) (hT.ptr 80 21 92) dX6_spreads_83 (fun _ h => h) ?_
        refine KIload_n C dX6_spreads_86 rfl 3 rfl ?_
        refine KIload_n C dX6_spreads_87 rfl 1 rfl ?_
        refine KIast (S := wI S (row1 (sI S) (q 92) (shf (sI S (q 92)) a n))) C 20 (hT.at0 92 20) (hT.ln0 92 20) ⟨by omega, by omega⟩ (by omega) ⟨by omega, by omega⟩ dX6_spreads_88 ?_
        refine KSto (S2 := wI S (row1 (sI S) (q 92) (insAt (sI S (q 92)) (insPosN (fun j => decide (dst (sI S (q 80) 2) (sI S (q 80) 3) 0 x < dst (sI S (q 80) 2) (sI S (q 80) 3) 0 (sI S (q 92) (j : Int)) ∨ (dst (sI S (q 80) 2) (sI S (q 80) 3) 0 (sI S (q 92) (j : Int)) = dst (sI S (q 80) 2) (sI S (q 80) 3) 0 x ∧ x < sI S (q 92) (j : Int)))) n) n x))) (by rw [e9]; exact congrArg (wI S) (up2_row1 _ _ _ _ _)) ?_
        refine KVret C rfl (by
          exact ⟨rfl, rfl⟩) (by decide) (by decide) dX6_spreads_89
      · have hFa := hF (a - 1) (by omega)
        obtain ⟨⟨hf1, hf2, hf3⟩, hf4⟩ := id hFa
        refine KAload_n C dX6_spreads_6 rfl 0 rfl ?_
        refine KIconst C dX6_spreads_7 ?_
        refine KAload_n C dX6_spreads_8 rfl 0 rfl ?_
        refine KGetR (S := wI S (row1 (sI S) (q 92) (shf (sI S (q 92)) a n))) C ul_X6 rfl (by decide) 21 21 rfl (by decide) rfl u_fl_RX6_47 (hT.at0 80 7) (b := q 92) (hT.ptr 80 21 92) dX6_spreads_9 (fun _ h => h) ?_
        refine KIload_n C dX6_spreads_12 rfl 3 rfl ?_
        refine KIconst C dX6_spreads_13 ?_
        refine KIsub C dX6_spreads_14 ?_
        refine KTop (congrArg iI (show (a : Int) - 1 = ((a - 1 : Nat) : Int) from (by omega))) ?_
        refine KIald (S := wI S (row1 (sI S) (q 92) (shf (sI S (q 92)) a n)))  (v := sI S (q 92) ((a - 1 : Nat) : Int)) C 20 (hT.at0 92 20) (hT.ln0 92 20) ⟨by omega, by omega⟩ (by omega) ((row1_same _ _ _ _).trans (shf_lo _ (by omega))) dX6_spreads_15 ?_
        have rb1 := hR.b (q 92) ((a - 1 : Nat) : Int) (v := sI S (q 92) ((a - 1 : Nat) : Int)) ((row1_same _ _ _ _).trans (shf_lo _ (by omega)))
        refine KCallV (As := [.int (iI 0), .int (iI (sI S (q 92) ((a - 1 : Nat) : Int)))]) (b := q 80) (st := []) C (ct_X6_way l g (wI S (row1 (sI S) (q 92) (shf (sI S (q 92)) a n))) q 0 (sI S (q 92) ((a - 1 : Nat) : Int)) hT hCm2 (by omega) (by omega)) u_ml_RX6_72 u_im_yX6_way u_se_yX6_way u_in_RX6 u_co_yX6_way hd_yX6_way (hT.at0 80 7) (by decide) rfl rfl ⟨Nat.le_of_ble_eq_true rfl, Nat.le_of_ble_eq_true rfl⟩ ⟨Nat.le_of_ble_eq_true rfl, Nat.le_of_ble_eq_true rfl⟩ (Nat.le_of_ble_eq_true rfl) dX6_spreads_16 rfl (fun v16 u16 hp16 => ?_)
        obtain ⟨rfl, rfl⟩ := hp16
        refine KSt (st2 := [.int (iI (dst (sI (wI S (row1 (sI S) (q 92) (shf (sI S (q 92)) a n))) (q 80) 2) (sI (wI S (row1 (sI S) (q 92) (shf (sI S (q 92)) a n))) (q 80) 3) 0 (sI S (q 92) ((a - 1 : Nat) : Int))))]) rfl ?_
        refine KRg (fun hR => ?_)
        refine KTop (congrArg iI (show dst (sI (wI S (row1 (sI S) (q 92) (shf (sI S (q 92)) a n))) (q 80) 2) (sI (wI S (row1 (sI S) (q 92) (shf (sI S (q 92)) a n))) (q 80) 3) 0 (sI S (q 92) ((a - 1 : Nat) : Int)) = dst (sI S (q 80) 2) (sI S (q 80) 3) 0 (sI S (q 92) ((a - 1 : Nat) : Int)) from (by rw [show sI (wI S (row1 (sI S) (q 92) (shf (sI S (q 92)) a n))) (q 80) 2 = sI S (q 80) 2 from row1_ne _ _ _ (hT.ne 80 92), show sI (wI S (row1 (sI S) (q 92) (shf (sI S (q 92)) a n))) (q 80) 3 = sI S (q 80) 3 from row1_ne _ _ _ (hT.ne 80 92)]))) ?_
        have hd1 := dst_b (N := sI S (q 80) 2) (G := sI S (q 80) 3) (x := 0) ⟨hN1, hN2⟩ ⟨hG1, hG2⟩ (by unfold isPl; omega) hFa.1 (by omega) hFa.2
        refine KAload_n C dX6_spreads_19 rfl 0 rfl ?_
        refine KIconst C dX6_spreads_20 ?_
        refine KIload_n C dX6_spreads_21 rfl 1 rfl ?_
        refine KCallV (As := [.int (iI 0), .int (iI x)]) (b := q 80) (st := [.int (iI (dst (sI S (q 80) 2) (sI S (q 80) 3) 0 (sI S (q 92) ((a - 1 : Nat) : Int))))]) C (ct_X6_way l g (wI S (row1 (sI S) (q 92) (shf (sI S (q 92)) a n))) q 0 x hT hCm2 (by omega) (by omega)) u_ml_RX6_72 u_im_yX6_way u_se_yX6_way u_in_RX6 u_co_yX6_way hd_yX6_way (hT.at0 80 7) (by decide) rfl rfl ⟨Nat.le_of_ble_eq_true rfl, Nat.le_of_ble_eq_true rfl⟩ ⟨Nat.le_of_ble_eq_true rfl, Nat.le_of_ble_eq_true rfl⟩ (Nat.le_of_ble_eq_true rfl) dX6_spreads_22 rfl (fun v22 u22 hp22 => ?_)
        obtain ⟨rfl, rfl⟩ := hp22
        refine KSt (st2 := [.int (iI (dst (sI (wI S (row1 (sI S) (q 92) (shf (sI S (q 92)) a n))) (q 80) 2) (sI (wI S (row1 (sI S) (q 92) (shf (sI S (q 92)) a n))) (q 80) 3) 0 x)), .int (iI (dst (sI S (q 80) 2) (sI S (q 80) 3) 0 (sI S (q 92) ((a - 1 : Nat) : Int))))]) rfl ?_
        refine KRg (fun hR => ?_)
        refine KTop (congrArg iI (show dst (sI (wI S (row1 (sI S) (q 92) (shf (sI S (q 92)) a n))) (q 80) 2) (sI (wI S (row1 (sI S) (q 92) (shf (sI S (q 92)) a n))) (q 80) 3) 0 x = dst (sI S (q 80) 2) (sI S (q 80) 3) 0 x from (by rw [show sI (wI S (row1 (sI S) (q 92) (shf (sI S (q 92)) a n))) (q 80) 2 = sI S (q 80) 2 from row1_ne _ _ _ (hT.ne 80 92), show sI (wI S (row1 (sI S) (q 92) (shf (sI S (q 92)) a n))) (q 80) 3 = sI S (q 80) 3 from row1_ne _ _ _ (hT.ne 80 92)]))) ?_
        have hd2 := dst_b (N := sI S (q 80) 2) (G := sI S (q 80) 3) (x := 0) ⟨hN1, hN2⟩ ⟨hG1, hG2⟩ (by unfold isPl; omega) hx.1 (by omega) hx.2
        refine KIcmp_gt (tgt := 62) C dX6_spreads_25 (by decide) ⟨by omega, by omega⟩ ⟨by omega, by omega⟩ (fun c25 => ?_) (fun c25 => ?_)
        · refine KAload_n C dX6_spreads_62 rfl 0 rfl ?_
          refine KGetR (S := wI S (row1 (sI S) (q 92) (shf (sI S (q 92)) a n))) C ul_X6 rfl (by decide) 21 21 rfl (by decide) rfl u_fl_RX6_47 (hT.at0 80 7) (b := q 92) (hT.ptr 80 21 92) dX6_spreads_63 (fun _ h => h) ?_
          refine KIload_n C dX6_spreads_66 rfl 3 rfl ?_
          refine KAload_n C dX6_spreads_67 rfl 0 rfl ?_
          refine KGetR (S := wI S (row1 (sI S) (q 92) (shf (sI S (q 92)) a n))) C ul_X6 rfl (by decide) 21 21 rfl (by decide) rfl u_fl_RX6_47 (hT.at0 80 7) (b := q 92) (hT.ptr 80 21 92) dX6_spreads_68 (fun _ h => h) ?_
          refine KIload_n C dX6_spreads_71 rfl 3 rfl ?_
          refine KIconst C dX6_spreads_72 ?_
          refine KIsub C dX6_spreads_73 ?_
          refine KTop (congrArg iI (show (a : Int) - 1 = ((a - 1 : Nat) : Int) from (by omega))) ?_
          refine KIald (S := wI S (row1 (sI S) (q 92) (shf (sI S (q 92)) a n)))  (v := sI S (q 92) ((a - 1 : Nat) : Int)) C 20 (hT.at0 92 20) (hT.ln0 92 20) ⟨by omega, by omega⟩ (by omega) ((row1_same _ _ _ _).trans (shf_lo _ (by omega))) dX6_spreads_74 ?_
          have rb2 := hR.b (q 92) ((a - 1 : Nat) : Int) (v := sI S (q 92) ((a - 1 : Nat) : Int)) ((row1_same _ _ _ _).trans (shf_lo _ (by omega)))
          refine KIast (S := wI S (row1 (sI S) (q 92) (shf (sI S (q 92)) a n))) C 20 (hT.at0 92 20) (hT.ln0 92 20) ⟨by omega, by omega⟩ (by omega) ⟨by omega, by omega⟩ dX6_spreads_75 ?_
          refine KSto (S2 := wI S (row1 (sI S) (q 92) (shf (sI S (q 92)) (a - 1) n))) (congrArg (wI S) ((up2_row1 _ _ _ _ _).trans (congrArg _ (shf_step' _ (by omega) ha)))) ?_
          refine KIinc (v := ((a - 1 : Nat) : Int)) (lv' := [(3, .int (iI ((a - 1 : Nat) : Int))), (0, .ref (q 80)), (1, .int (iI x)), (2, .int (iI (n : Int)))]) C dX6_spreads_76 3 rfl (by omega) (by decide) rfl ?_
          refine KGoto (tgt := 2) C dX6_spreads_79 (by decide) ?_
          refine KLv (lv' := [(0, .ref (q 80)), (1, .int (iI x)), (2, .int (iI (n : Int))), (3, .int (iI ((a - 1 : Nat) : Int)))]) [1, 2, 3, 0] rfl ?_
          exact ih2 (a - 1) (by omega) (by omega) (hpos.trans (insPosN_t' (by omega) (decide_eq_true (by first | assumption | omega))))
        · refine KAload_n C dX6_spreads_28 rfl 0 rfl ?_
          refine KIconst C dX6_spreads_29 ?_
          refine KAload_n C dX6_spreads_30 rfl 0 rfl ?_
          refine KGetR (S := wI S (row1 (sI S) (q 92) (shf (sI S (q 92)) a n))) C ul_X6 rfl (by decide) 21 21 rfl (by decide) rfl u_fl_RX6_47 (hT.at0 80 7) (b := q 92) (hT.ptr 80 21 92) dX6_spreads_31 (fun _ h => h) ?_
          refine KIload_n C dX6_spreads_34 rfl 3 rfl ?_
          refine KIconst C dX6_spreads_35 ?_
          refine KIsub C dX6_spreads_36 ?_
          refine KTop (congrArg iI (show (a : Int) - 1 = ((a - 1 : Nat) : Int) from (by omega))) ?_
          refine KIald (S := wI S (row1 (sI S) (q 92) (shf (sI S (q 92)) a n)))  (v := sI S (q 92) ((a - 1 : Nat) : Int)) C 20 (hT.at0 92 20) (hT.ln0 92 20) ⟨by omega, by omega⟩ (by omega) ((row1_same _ _ _ _).trans (shf_lo _ (by omega))) dX6_spreads_37 ?_
          have rb3 := hR.b (q 92) ((a - 1 : Nat) : Int) (v := sI S (q 92) ((a - 1 : Nat) : Int)) ((row1_same _ _ _ _).trans (shf_lo _ (by omega)))
          refine KCallV (As := [.int (iI 0), .int (iI (sI S (q 92) ((a - 1 : Nat) : Int)))]) (b := q 80) (st := []) C (ct_X6_way l g (wI S (row1 (sI S) (q 92) (shf (sI S (q 92)) a n))) q 0 (sI S (q 92) ((a - 1 : Nat) : Int)) hT hCm2 (by omega) (by omega)) u_ml_RX6_72 u_im_yX6_way u_se_yX6_way u_in_RX6 u_co_yX6_way hd_yX6_way (hT.at0 80 7) (by decide) rfl rfl ⟨Nat.le_of_ble_eq_true rfl, Nat.le_of_ble_eq_true rfl⟩ ⟨Nat.le_of_ble_eq_true rfl, Nat.le_of_ble_eq_true rfl⟩ (Nat.le_of_ble_eq_true rfl) dX6_spreads_38 rfl (fun v38 u38 hp38 => ?_)
          obtain ⟨rfl, rfl⟩ := hp38
          refine KSt (st2 := [.int (iI (dst (sI (wI S (row1 (sI S) (q 92) (shf (sI S (q 92)) a n))) (q 80) 2) (sI (wI S (row1 (sI S) (q 92) (shf (sI S (q 92)) a n))) (q 80) 3) 0 (sI S (q 92) ((a - 1 : Nat) : Int))))]) rfl ?_
          refine KRg (fun hR => ?_)
          refine KTop (congrArg iI (show dst (sI (wI S (row1 (sI S) (q 92) (shf (sI S (q 92)) a n))) (q 80) 2) (sI (wI S (row1 (sI S) (q 92) (shf (sI S (q 92)) a n))) (q 80) 3) 0 (sI S (q 92) ((a - 1 : Nat) : Int)) = dst (sI S (q 80) 2) (sI S (q 80) 3) 0 (sI S (q 92) ((a - 1 : Nat) : Int)) from (by rw [show sI (wI S (row1 (sI S) (q 92) (shf (sI S (q 92)) a n))) (q 80) 2 = sI S (q 80) 2 from row1_ne _ _ _ (hT.ne 80 92), show sI (wI S (row1 (sI S) (q 92) (shf (sI S (q 92)) a n))) (q 80) 3 = sI S (q 80) 3 from row1_ne _ _ _ (hT.ne 80 92)]))) ?_
          refine KAload_n C dX6_spreads_41 rfl 0 rfl ?_
          refine KIconst C dX6_spreads_42 ?_
          refine KIload_n C dX6_spreads_43 rfl 1 rfl ?_
          refine KCallV (As := [.int (iI 0), .int (iI x)]) (b := q 80) (st := [.int (iI (dst (sI S (q 80) 2) (sI S (q 80) 3) 0 (sI S (q 92) ((a - 1 : Nat) : Int))))]) C (ct_X6_way l g (wI S (row1 (sI S) (q 92) (shf (sI S (q 92)) a n))) q 0 x hT hCm2 (by omega) (by omega)) u_ml_RX6_72 u_im_yX6_way u_se_yX6_way u_in_RX6 u_co_yX6_way hd_yX6_way (hT.at0 80 7) (by decide) rfl rfl ⟨Nat.le_of_ble_eq_true rfl, Nat.le_of_ble_eq_true rfl⟩ ⟨Nat.le_of_ble_eq_true rfl, Nat.le_of_ble_eq_true rfl⟩ (Nat.le_of_ble_eq_true rfl) dX6_spreads_44 rfl (fun v44 u44 hp44 => ?_)
          obtain ⟨rfl, rfl⟩ := hp44
          refine KSt (st2 := [.int (iI (dst (sI (wI S (row1 (sI S) (q 92) (shf (sI S (q 92)) a n))) (q 80) 2) (sI (wI S (row1 (sI S) (q 92) (shf (sI S (q 92)) a n))) (q 80) 3) 0 x)), .int (iI (dst (sI S (q 80) 2) (sI S (q 80) 3) 0 (sI S (q 92) ((a - 1 : Nat) : Int))))]) rfl ?_
          refine KRg (fun hR => ?_)
          refine KTop (congrArg iI (show dst (sI (wI S (row1 (sI S) (q 92) (shf (sI S (q 92)) a n))) (q 80) 2) (sI (wI S (row1 (sI S) (q 92) (shf (sI S (q 92)) a n))) (q 80) 3) 0 x = dst (sI S (q 80) 2) (sI S (q 80) 3) 0 x from (by rw [show sI (wI S (row1 (sI S) (q 92) (shf (sI S (q 92)) a n))) (q 80) 2 = sI S (q 80) 2 from row1_ne _ _ _ (hT.ne 80 92), show sI (wI S (row1 (sI S) (q 92) (shf (sI S (q 92)) a n))) (q 80) 3 = sI S (q 80) 3 from row1_ne _ _ _ (hT.ne 80 92)]))) ?_
          refine KIcmp_ne (tgt := 82) C dX6_spreads_47 (by decide) ⟨by omega, by omega⟩ ⟨by omega, by omega⟩ (fun c47 => ?_) (fun c47 => ?_)
          · have e9 : insPosN (fun j => decide (dst (sI S (q 80) 2) (sI S (q 80) 3) 0 x < dst (sI S (q 80) 2) (sI S (q 80) 3) 0 (sI S (q 92) (j : Int)) ∨ (dst (sI S (q 80) 2) (sI S (q 80) 3) 0 (sI S (q 92) (j : Int)) = dst (sI S (q 80) 2) (sI S (q 80) 3) 0 x ∧ x < sI S (q 92) (j : Int)))) n = a := hpos.trans (insPosN_f' (Or.inr ⟨by omega, decide_eq_false (by omega)⟩))
            refine KAload_n C dX6_spreads_82 rfl 0 rfl ?_
            refine KGetR (S := wI S (row1 (sI S) (q 92) (shf (sI S (q 92)) a n))) C ul_X6 rfl (by decide) 21 21 rfl (by decide) rfl u_fl_RX6_47 (hT.at0 80 7) (b := q 92) (hT.ptr 80 21 92) dX6_spreads_83 (fun _ h => h) ?_
            refine KIload_n C dX6_spreads_86 rfl 3 rfl ?_
            refine KIload_n C dX6_spreads_87 rfl 1 rfl ?_
            refine KIast (S := wI S (row1 (sI S) (q 92) (shf (sI S (q 92)) a n))) C 20 (hT.at0 92 20) (hT.ln0 92 20) ⟨by omega, by omega⟩ (by omega) ⟨by omega, by omega⟩ dX6_spreads_88 ?_
            refine KSto (S2 := wI S (row1 (sI S) (q 92) (insAt (sI S (q 92)) (insPosN (fun j => decide (dst (sI S (q 80) 2) (sI S (q 80) 3) 0 x < dst (sI S (q 80) 2) (sI S (q 80) 3) 0 (sI S (q 92) (j : Int)) ∨ (dst (sI S (q 80) 2) (sI S (q 80) 3) 0 (sI S (q 92) (j : Int)) = dst (sI S (q 80) 2) (sI S (q 80) 3) 0 x ∧ x < sI S (q 92) (j : Int)))) n) n x))) (by rw [e9]; exact congrArg (wI S) (up2_row1 _ _ _ _ _)) ?_
            refine KVret C rfl (by
              exact ⟨rfl, rfl⟩) (by decide) (by decide) dX6_spreads_89
          · refine KAload_n C dX6_spreads_50 rfl 0 rfl ?_
            refine KGetR (S := wI S (row1 (sI S) (q 92) (shf (sI S (q 92)) a n))) C ul_X6 rfl (by decide) 21 21 rfl (by decide) rfl u_fl_RX6_47 (hT.at0 80 7) (b := q 92) (hT.ptr 80 21 92) dX6_spreads_51 (fun _ h => h) ?_
            refine KIload_n C dX6_spreads_54 rfl 3 rfl ?_
            refine KIconst C dX6_spreads_55 ?_
            refine KIsub C dX6_spreads_56 ?_
            refine KTop (congrArg iI (show (a : Int) - 1 = ((a - 1 : Nat) : Int) from (by omega))) ?_
            refine KIald (S := wI S (row1 (sI S) (q 92) (shf (sI S (q 92)) a n)))  (v := sI S (q 92) ((a - 1 : Nat) : Int)) C 20 (hT.at0 92 20) (hT.ln0 92 20) ⟨by omega, by omega⟩ (by omega) ((row1_same _ _ _ _).trans (shf_lo _ (by omega))) dX6_spreads_57 ?_
            have rb4 := hR.b (q 92) ((a - 1 : Nat) : Int) (v := sI S (q 92) ((a - 1 : Nat) : Int)) ((row1_same _ _ _ _).trans (shf_lo _ (by omega)))
            refine KIload_n C dX6_spreads_58 rfl 1 rfl ?_
            refine KIcmp_le (tgt := 82) C dX6_spreads_59 (by decide) ⟨by omega, by omega⟩ ⟨by omega, by omega⟩ (fun c59 => ?_) (fun c59 => ?_)
            · have e9 : insPosN (fun j => decide (dst (sI S (q 80) 2) (sI S (q 80) 3) 0 x < dst (sI S (q 80) 2) (sI S (q 80) 3) 0 (sI S (q 92) (j : Int)) ∨ (dst (sI S (q 80) 2) (sI S (q 80) 3) 0 (sI S (q 92) (j : Int)) = dst (sI S (q 80) 2) (sI S (q 80) 3) 0 x ∧ x < sI S (q 92) (j : Int)))) n = a := hpos.trans (insPosN_f' (Or.inr ⟨by omega, decide_eq_false (by omega)⟩))
              refine KAload_n C dX6_spreads_82 rfl 0 rfl ?_
              refine KGetR (S := wI S (row1 (sI S) (q 92) (shf (sI S (q 92)) a n))) C ul_X6 rfl (by decide) 21 21 rfl (by decide) rfl u_fl_RX6_47 (hT.at0 80 7) (b := q 92) (hT.ptr 80 21 92) dX6_spreads_83 (fun _ h => h) ?_
              refine KIload_n C dX6_spreads_86 rfl 3 rfl ?_
              refine KIload_n C dX6_spreads_87 rfl 1 rfl ?_
              refine KIast (S := wI S (row1 (sI S) (q 92) (shf (sI S (q 92)) a n))) C 20 (hT.at0 92 20) (hT.ln0 92 20) ⟨by omega, by omega⟩ (by omega) ⟨by omega, by omega⟩ dX6_spreads_88 ?_
              refine KSto (S2 := wI S (row1 (sI S) (q 92) (insAt (sI S (q 92)) (insPosN (fun j => decide (dst (sI S (q 80) 2) (sI S (q 80) 3) 0 x < dst (sI S (q 80) 2) (sI S (q 80) 3) 0 (sI S (q 92) (j : Int)) ∨ (dst (sI S (q 80) 2) (sI S (q 80) 3) 0 (sI S (q 92) (j : Int)) = dst (sI S (q 80) 2) (sI S (q 80) 3) 0 x ∧ x < sI S (q 92) (j : Int)))) n) n x))) (by rw [e9]; exact congrArg (wI S) (up2_row1 _ _ _ _ _)) ?_
              refine KVret C rfl (by
                exact ⟨rfl, rfl⟩) (by decide) (by decide) dX6_spreads_89
            · refine KAload_n C dX6_spreads_62 rfl 0 rfl ?_
              refine KGetR (S := wI S (row1 (sI S) (q 92) (shf (sI S (q 92)) a n))) C ul_X6 rfl (by decide) 21 21 rfl (by decide) rfl u_fl_RX6_47 (hT.at0 80 7) (b := q 92) (hT.ptr 80 21 92) dX6_spreads_63 (fun _ h => h) ?_
              refine KIload_n C dX6_spreads_66 rfl 3 rfl ?_
              refine KAload_n C dX6_spreads_67 rfl 0 rfl ?_
              refine KGetR (S := wI S (row1 (sI S) (q 92) (shf (sI S (q 92)) a n))) C ul_X6 rfl (by decide) 21 21 rfl (by decide) rfl u_fl_RX6_47 (hT.at0 80 7) (b := q 92) (hT.ptr 80 21 92) dX6_spreads_68 (fun _ h => h) ?_
              refine KIload_n C dX6_spreads_71 rfl 3 rfl ?_
              refine KIconst C dX6_spreads_72 ?_
              refine KIsub C dX6_spreads_73 ?_
              refine KTop (congrArg iI (show (a : Int) - 1 = ((a - 1 : Nat) : Int) from (by omega))) ?_
              refine KIald (S := wI S (row1 (sI S) (q 92) (shf (sI S (q 92)) a n)))  (v := sI S (q 92) ((a - 1 : Nat) : Int)) C 20 (hT.at0 92 20) (hT.ln0 92 20) ⟨by omega, by omega⟩ (by omega) ((row1_same _ _ _ _).trans (shf_lo _ (by omega))) dX6_spreads_74 ?_
              have rb5 := hR.b (q 92) ((a - 1 : Nat) : Int) (v := sI S (q 92) ((a - 1 : Nat) : Int)) ((row1_same _ _ _ _).trans (shf_lo _ (by omega)))
              refine KIast (S := wI S (row1 (sI S) (q 92) (shf (sI S (q 92)) a n))) C 20 (hT.at0 92 20) (hT.ln0 92 20) ⟨by omega, by omega⟩ (by omega) ⟨by omega, by omega⟩ dX6_spreads_75 ?_
              refine KSto (S2 := wI S (row1 (sI S) (q 92) (shf (sI S (q 92)) (a - 1) n))) (congrArg (wI S) ((up2_row1 _ _ _ _ _).trans (congrArg _ (shf_step' _ (by omega) ha)))) ?_
              refine KIinc (v := ((a - 1 : Nat) : Int)) (lv' := [(3, .int (iI ((a - 1 : Nat) : Int))), (0, .ref (q 80)), (1, .int (iI x)), (2, .int (iI (n : Int)))]) C dX6_spreads_76 3 rfl (by omega) (by decide) rfl ?_
              refine KGoto (tgt := 2) C dX6_spreads_79 (by decide) ?_
              refine KLv (lv' := [(0, .ref (q 80)), (1, .int (iI x)), (2, .int (iI (n : Int))), (3, .int (iI ((a - 1 : Nat) : Int)))]) [1, 2, 3, 0] rfl ?_
              exact ih2 (a - 1) (by omega) (by omega) (hpos.trans (insPosN_t' (by omega) (decide_eq_true (by first | assumption | omega))))
  exact loop2 _ n (Nat.lt_succ_self _) (by omega) rfl
def P_X6_farthest (S : Sto) (q : Nat → Nat) (b : Int) (ai : Int) : Option Value → Sto → Prop := fun v u => v = some (.int (iI (zfr (sgM S q) b ai))) ∧ S = u
set_option maxRecDepth 100000 in
set_option maxHeartbeats 4000000 in
theorem ct_X6_farthest (l : Launch) (g : GG) (S : Sto) (q : Nat → Nat) (b : Int) (ai : Int) (hT : Top S q) (hW : Wf (sgM S q)) (hCn : Cn S q) (hb : -1 ≤ b ∧ b ≤ 100) (hai : 0 ≤ ai ∧ ai ≤ 100) : MetS l g yX6_farthest cX6_farthest 7 (some FieldType.int) 3 0 0 [.ref (q 80), .int (iI b), .int (iI ai)] S (P_X6_farthest S q b ai) := by
  refine MetS.of (own := RX6) (lv := [(0, .ref (q 80)), (1, .int (iI b)), (2, .int (iI ai))]) (by decide) rfl (Nat.le_of_ble_eq_true rfl) rfl ?_
  intro pX eX sX mX argsX belowX methX cX C hin
  refine KRg (fun hR => ?_)
  have hmlt : zpd (sgM S q) b < 1048576 := prd_lt _ (fun o ho => zW_lt hW.wl ho)
  refine KAload_n C dX6_farthest_0 rfl 0 rfl ?_
  refine KIload_n C dX6_farthest_1 rfl 1 rfl ?_
  refine KCallV (As := [.int (iI b)]) (b := q 80) (st := []) C (ct_X6_productsOf l g S q b hT hW.wl hCn (by omega)) u_ml_RX6_120 u_im_yX6_productsOf u_se_yX6_productsOf u_in_RX6 u_co_yX6_productsOf hd_yX6_productsOf (hT.at0 80 7) (by decide) rfl rfl ⟨Nat.le_of_ble_eq_true rfl, Nat.le_of_ble_eq_true rfl⟩ ⟨Nat.le_of_ble_eq_true rfl, Nat.le_of_ble_eq_true rfl⟩ (Nat.le_of_ble_eq_true rfl) dX6_farthest_2 rfl (fun v2 u2 hp2 => ?_)
  obtain ⟨rfl, rfl⟩ := hp2
  refine KSt (st2 := [.int (iI ((zpd (sgM S q) b : Nat) : Int))]) rfl ?_
  refine KIstore_n (lv' := [(3, .int (iI ((zpd (sgM S q) b : Nat) : Int))), (0, .ref (q 80)), (1, .int (iI b)), (2, .int (iI ai))]) C dX6_farthest_5 rfl (by decide) rfl ?_
  refine KIconst C dX6_farthest_6 ?_
  refine KIstore (lv' := [(4, .int (iI 0)), (3, .int (iI ((zpd (sgM S q) b : Nat) : Int))), (0, .ref (q 80)), (1, .int (iI b)), (2, .int (iI ai))]) C dX6_farthest_7 (by decide) rfl ?_
  refine KIconst C dX6_farthest_9 ?_
  refine KIstore (lv' := [(5, .int (iI 0)), (4, .int (iI 0)), (3, .int (iI ((zpd (sgM S q) b : Nat) : Int))), (0, .ref (q 80)), (1, .int (iI b)), (2, .int (iI ai))]) C dX6_farthest_10 (by decide) rfl ?_
  refine KLv (lv' := [(0, .ref (q 80)), (1, .int (iI b)), (2, .int (iI ai)), (3, .int (iI ((zpd (sgM S q) b : Nat) : Int))), (4, .int (iI 0)), (5, .int (iI 0))]) [3, 4, 5, 2, 1, 0] rfl ?_
  have loop12 : ∀ (nX : Nat) (k : Nat), 20 - k < nX → (k ≤ 20) → Wk pX l eX (rmK 3 0 0) sX mX argsX belowX methX cX (MQ belowX (QcG g (P_X6_farthest S q b ai)) argsX sX 0 0 (ge (gB g))) g 7 0 0 12 [(0, .ref (q 80)), (1, .int (iI b)), (2, .int (iI ai)), (3, .int (iI ((zpd (sgM S q) b : Nat) : Int))), (4, .int (iI (fr (sI S (q 81)) (zpd (sgM S q) b) ai k))), (5, .int (iI (k : Int)))] [] S := by
    intro nX
    induction nX with
    | zero => intro k hm; exact absurd hm (Nat.not_lt_zero _)
    | succ nX ih12 =>
      intro k hm12 hk
      refine KRg (fun hR => ?_)
      have hfb := fr_b (sI S (q 81)) (zpd (sgM S q) b) ai k
      refine KIload C dX6_farthest_12 5 rfl ?_
      refine KBipush C dX6_farthest_14 (by decide) ?_
      refine KIcmp_ge (tgt := 93) C dX6_farthest_16 (by decide) ⟨by omega, by omega⟩ ⟨by omega, by omega⟩ (fun c16 => ?_) (fun c16 => ?_)
      · refine KIload C dX6_farthest_93 4 rfl ?_
        refine KIret C rfl rfl (by
          refine ⟨?_, rfl⟩
          rw [show zfr (sgM S q) b ai = fr (sI S (q 81)) (zpd (sgM S q) b) ai 20 from rfl, show 20 = k by omega]) (by decide) (by decide) dX6_farthest_95
      · refine KIload_n C dX6_farthest_19 rfl 3 rfl ?_
        refine KIload C dX6_farthest_20 5 rfl ?_
        refine KIshr (v := iI ((zpd (sgM S q) b / 2 ^ k : Nat) : Int)) C dX6_farthest_22 (ib_shr (by omega) (by omega)) ?_
        refine KIconst C dX6_farthest_23 ?_
        refine KIand (v := iI ((zpd (sgM S q) b / 2 ^ k % 2 : Nat) : Int)) C dX6_farthest_24 (ib_bit (by omega) (by omega)) ?_
        refine KIconst C dX6_farthest_25 ?_
        refine KIcmp_ne (tgt := 47) C dX6_farthest_26 (by decide) ⟨by omega, by omega⟩ ⟨by omega, by omega⟩ (fun c26 => ?_) (fun c26 => ?_)
        · have hfr := fr_f (P := sI S (q 81)) (ai := ai) (p := k) (m := zpd (sgM S q) b) (Or.inl (by rw [tb_0 (by omega)]; exact Bool.false_ne_true))
          refine KIconst C dX6_farthest_47 ?_
          refine KIstore (lv' := [(6, .int (iI 0)), (0, .ref (q 80)), (1, .int (iI b)), (2, .int (iI ai)), (3, .int (iI ((zpd (sgM S q) b : Nat) : Int))), (4, .int (iI (fr (sI S (q 81)) (zpd (sgM S q) b) ai k))), (5, .int (iI (k : Int)))]) C dX6_farthest_48 (by decide) rfl ?_
          refine KIload C dX6_farthest_50 0 rfl ?_
          refine KIf_eq (tgt := 83) C dX6_farthest_52 (by decide) ⟨by omega, by omega⟩ (fun _ => ?_) (fun h => absurd h (by decide))
          refine KIload C dX6_farthest_83 5 rfl ?_
          refine KTop (congrArg iI (show fr (sI S (q 81)) (zpd (sgM S q) b) ai k = fr (sI S (q 81)) (zpd (sgM S q) b) ai (k + 1) from hfr)) ?_
          refine KIstore (lv' := [(4, .int (iI (fr (sI S (q 81)) (zpd (sgM S q) b) ai (k + 1)))), (6, .int (iI 0)), (0, .ref (q 80)), (1, .int (iI b)), (2, .int (iI ai)), (3, .int (iI ((zpd (sgM S q) b : Nat) : Int))), (5, .int (iI (k : Int)))]) C dX6_farthest_85 (by decide) rfl ?_
          refine KIinc (v := ((k + 1 : Nat) : Int)) (lv' := [(5, .int (iI ((k + 1 : Nat) : Int))), (4, .int (iI (fr (sI S (q 81)) (zpd (sgM S q) b) ai (k + 1)))), (6, .int (iI 0)), (0, .ref (q 80)), (1, .int (iI b)), (2, .int (iI ai)), (3, .int (iI ((zpd (sgM S q) b : Nat) : Int)))]) C dX6_farthest_87 6 rfl (by omega) (by decide) rfl ?_
          refine KGoto (tgt := 12) C dX6_farthest_90 (by decide) ?_
          refine KLv (lv' := [(0, .ref (q 80)), (1, .int (iI b)), (2, .int (iI ai)), (3, .int (iI ((zpd (sgM S q) b : Nat) : Int))), (4, .int (iI (fr (sI S (q 81)) (zpd (sgM S q) b) ai (k + 1)))), (5, .int (iI ((k + 1 : Nat) : Int)))]) [3, 4, 5, 6, 1, 0] rfl ?_
          exact ih12 (k + 1) (by omega) (by omega)
        · have hb26 : (zpd (sgM S q) b).testBit k = true := tb_1 (by omega)
          obtain ⟨o9, ho9, -, hp9⟩ := prd_bit _ k hb26
          have hpl := hW.okP ho9 hp9
          change 0 ≤ sI S (q 81) (k : Int) ∧ sI S (q 81) (k : Int) / 100 ≤ 5 ∧ 1 ≤ sI S (q 81) (k : Int) % 100 ∧ _ at hpl
          have hC := hW.1
          have hC2 : zN (sgM S q) ≤ 20 := hC.2.2.2.1
          refine KAload_n C dX6_farthest_29 rfl 0 rfl ?_
          refine KGetR C ul_X6 rfl (by decide) 5 5 rfl (by decide) rfl u_fl_RX6_13 (hT.at0 80 7) (b := q 81) (hT.ptr 80 5 81) dX6_farthest_30 (fun _ h => h) ?_
          refine KIload C dX6_farthest_33 5 rfl ?_
          refine KIald  (v := sI S (q 81) (k : Int)) C 20 (hT.at0 81 20) (hT.ln0 81 20) ⟨by omega, by omega⟩ (by omega) rfl dX6_farthest_35 ?_
          have rb1 := hR.b (q 81) (k : Int) (v := sI S (q 81) (k : Int)) rfl
          refine KBipush C dX6_farthest_36 (by decide) ?_
          refine KIdiv (z := (sI S (q 81) (k : Int)) / 100) C dX6_farthest_38 ⟨by omega, by omega⟩ ⟨by omega, by omega⟩ (by omega) (tdiv_pos (by omega)) ?_
          refine KIload_n C dX6_farthest_39 rfl 2 rfl ?_
          refine KIcmp_ne (tgt := 47) C dX6_farthest_40 (by decide) ⟨by omega, by omega⟩ ⟨by omega, by omega⟩ (fun c40 => ?_) (fun c40 => ?_)
          · have hfr := fr_f (P := sI S (q 81)) (ai := ai) (p := k) (m := zpd (sgM S q) b) (Or.inr (Or.inl c40))
            refine KIconst C dX6_farthest_47 ?_
            refine KIstore (lv' := [(6, .int (iI 0)), (0, .ref (q 80)), (1, .int (iI b)), (2, .int (iI ai)), (3, .int (iI ((zpd (sgM S q) b : Nat) : Int))), (4, .int (iI (fr (sI S (q 81)) (zpd (sgM S q) b) ai k))), (5, .int (iI (k : Int)))]) C dX6_farthest_48 (by decide) rfl ?_
            refine KIload C dX6_farthest_50 0 rfl ?_
            refine KIf_eq (tgt := 83) C dX6_farthest_52 (by decide) ⟨by omega, by omega⟩ (fun _ => ?_) (fun h => absurd h (by decide))
            refine KIload C dX6_farthest_83 5 rfl ?_
            refine KTop (congrArg iI (show fr (sI S (q 81)) (zpd (sgM S q) b) ai k = fr (sI S (q 81)) (zpd (sgM S q) b) ai (k + 1) from hfr)) ?_
            refine KIstore (lv' := [(4, .int (iI (fr (sI S (q 81)) (zpd (sgM S q) b) ai (k + 1)))), (6, .int (iI 0)), (0, .ref (q 80)), (1, .int (iI b)), (2, .int (iI ai)), (3, .int (iI ((zpd (sgM S q) b : Nat) : Int))), (5, .int (iI (k : Int)))]) C dX6_farthest_85 (by decide) rfl ?_
            refine KIinc (v := ((k + 1 : Nat) : Int)) (lv' := [(5, .int (iI ((k + 1 : Nat) : Int))), (4, .int (iI (fr (sI S (q 81)) (zpd (sgM S q) b) ai (k + 1)))), (6, .int (iI 0)), (0, .ref (q 80)), (1, .int (iI b)), (2, .int (iI ai)), (3, .int (iI ((zpd (sgM S q) b : Nat) : Int)))]) C dX6_farthest_87 6 rfl (by omega) (by decide) rfl ?_
            refine KGoto (tgt := 12) C dX6_farthest_90 (by decide) ?_
            refine KLv (lv' := [(0, .ref (q 80)), (1, .int (iI b)), (2, .int (iI ai)), (3, .int (iI ((zpd (sgM S q) b : Nat) : Int))), (4, .int (iI (fr (sI S (q 81)) (zpd (sgM S q) b) ai (k + 1)))), (5, .int (iI ((k + 1 : Nat) : Int)))]) [3, 4, 5, 6, 1, 0] rfl ?_
            exact ih12 (k + 1) (by omega) (by omega)
          · refine KIconst C dX6_farthest_43 ?_
            refine KGoto (tgt := 48) C dX6_farthest_44 (by decide) ?_
            refine KIstore (lv' := [(6, .int (iI 1)), (0, .ref (q 80)), (1, .int (iI b)), (2, .int (iI ai)), (3, .int (iI ((zpd (sgM S q) b : Nat) : Int))), (4, .int (iI (fr (sI S (q 81)) (zpd (sgM S q) b) ai k))), (5, .int (iI (k : Int)))]) C dX6_farthest_48 (by decide) rfl ?_
            refine KIload C dX6_farthest_50 0 rfl ?_
            refine KIf_eq (tgt := 83) C dX6_farthest_52 (by decide) ⟨by omega, by omega⟩ (fun h => absurd h (by decide)) (fun _ => ?_)
            refine KAload_n C dX6_farthest_55 rfl 1 rfl ?_
            refine KGetR C ul_X6 rfl (by decide) 5 5 rfl (by decide) rfl u_fl_RX6_13 (hT.at0 80 7) (b := q 81) (hT.ptr 80 5 81) dX6_farthest_56 (fun _ h => h) ?_
            refine KIload C dX6_farthest_59 6 rfl ?_
            refine KIald  (v := sI S (q 81) (k : Int)) C 20 (hT.at0 81 20) (hT.ln0 81 20) ⟨by omega, by omega⟩ (by omega) rfl dX6_farthest_61 ?_
            have rb2 := hR.b (q 81) (k : Int) (v := sI S (q 81) (k : Int)) rfl
            refine KBipush C dX6_farthest_62 (by decide) ?_
            refine KIrem (z := (sI S (q 81) (k : Int)) % 100) C dX6_farthest_64 ⟨by omega, by omega⟩ ⟨by omega, by omega⟩ (by omega) (tmod_pos (by omega)) ?_
            refine KIload C dX6_farthest_65 5 rfl ?_
            refine KIcmp_le (tgt := 83) C dX6_farthest_67 (by decide) ⟨by omega, by omega⟩ ⟨by omega, by omega⟩ (fun c67 => ?_) (fun c67 => ?_)
            · have hfr := fr_f (P := sI S (q 81)) (ai := ai) (p := k) (m := zpd (sgM S q) b) (Or.inr (Or.inr c67))
              refine KIload C dX6_farthest_83 5 rfl ?_
              refine KTop (congrArg iI (show fr (sI S (q 81)) (zpd (sgM S q) b) ai k = fr (sI S (q 81)) (zpd (sgM S q) b) ai (k + 1) from hfr)) ?_
              refine KIstore (lv' := [(4, .int (iI (fr (sI S (q 81)) (zpd (sgM S q) b) ai (k + 1)))), (6, .int (iI 1)), (0, .ref (q 80)), (1, .int (iI b)), (2, .int (iI ai)), (3, .int (iI ((zpd (sgM S q) b : Nat) : Int))), (5, .int (iI (k : Int)))]) C dX6_farthest_85 (by decide) rfl ?_
              refine KIinc (v := ((k + 1 : Nat) : Int)) (lv' := [(5, .int (iI ((k + 1 : Nat) : Int))), (4, .int (iI (fr (sI S (q 81)) (zpd (sgM S q) b) ai (k + 1)))), (6, .int (iI 1)), (0, .ref (q 80)), (1, .int (iI b)), (2, .int (iI ai)), (3, .int (iI ((zpd (sgM S q) b : Nat) : Int)))]) C dX6_farthest_87 6 rfl (by omega) (by decide) rfl ?_
              refine KGoto (tgt := 12) C dX6_farthest_90 (by decide) ?_
              refine KLv (lv' := [(0, .ref (q 80)), (1, .int (iI b)), (2, .int (iI ai)), (3, .int (iI ((zpd (sgM S q) b : Nat) : Int))), (4, .int (iI (fr (sI S (q 81)) (zpd (sgM S q) b) ai (k + 1)))), (5, .int (iI ((k + 1 : Nat) : Int)))]) [3, 4, 5, 6, 1, 0] rfl ?_
              exact ih12 (k + 1) (by omega) (by omega)
            · have hfr := fr_t (P := sI S (q 81)) (ai := ai) (p := k) (m := zpd (sgM S q) b) hb26 c40 c67
              refine KAload_n C dX6_farthest_70 rfl 1 rfl ?_
              refine KGetR C ul_X6 rfl (by decide) 5 5 rfl (by decide) rfl u_fl_RX6_13 (hT.at0 80 7) (b := q 81) (hT.ptr 80 5 81) dX6_farthest_71 (fun _ h => h) ?_
              refine KIload C dX6_farthest_74 6 rfl ?_
              refine KIald  (v := sI S (q 81) (k : Int)) C 20 (hT.at0 81 20) (hT.ln0 81 20) ⟨by omega, by omega⟩ (by omega) rfl dX6_farthest_76 ?_
              have rb3 := hR.b (q 81) (k : Int) (v := sI S (q 81) (k : Int)) rfl
              refine KBipush C dX6_farthest_77 (by decide) ?_
              refine KIrem (z := (sI S (q 81) (k : Int)) % 100) C dX6_farthest_79 ⟨by omega, by omega⟩ ⟨by omega, by omega⟩ (by omega) (tmod_pos (by omega)) ?_
              refine KGoto (tgt := 85) C dX6_farthest_80 (by decide) ?_
              refine KTop (congrArg iI (show (sI S (q 81) (k : Int)) % 100 = fr (sI S (q 81)) (zpd (sgM S q) b) ai (k + 1) from hfr)) ?_
              refine KIstore (lv' := [(4, .int (iI (fr (sI S (q 81)) (zpd (sgM S q) b) ai (k + 1)))), (6, .int (iI 1)), (0, .ref (q 80)), (1, .int (iI b)), (2, .int (iI ai)), (3, .int (iI ((zpd (sgM S q) b : Nat) : Int))), (5, .int (iI (k : Int)))]) C dX6_farthest_85 (by decide) rfl ?_
              refine KIinc (v := ((k + 1 : Nat) : Int)) (lv' := [(5, .int (iI ((k + 1 : Nat) : Int))), (4, .int (iI (fr (sI S (q 81)) (zpd (sgM S q) b) ai (k + 1)))), (6, .int (iI 1)), (0, .ref (q 80)), (1, .int (iI b)), (2, .int (iI ai)), (3, .int (iI ((zpd (sgM S q) b : Nat) : Int)))]) C dX6_farthest_87 6 rfl (by omega) (by decide) rfl ?_
              refine KGoto (tgt := 12) C dX6_farthest_90 (by decide) ?_
              refine KLv (lv' := [(0, .ref (q 80)), (1, .int (iI b)), (2, .int (iI ai)), (3, .int (iI ((zpd (sgM S q) b : Nat) : Int))), (4, .int (iI (fr (sI S (q 81)) (zpd (sgM S q) b) ai (k + 1)))), (5, .int (iI ((k + 1 : Nat) : Int)))]) [3, 4, 5, 6, 1, 0] rfl ?_
              exact ih12 (k + 1) (by omega) (by omega)
  exact loop12 _ 0 (Nat.lt_succ_self _) (by omega)
