def P_X3_isNearer (S : Sto) (q : Nat → Nat) (x : Int) (y : Int) : Option Value → Sto → Prop := fun v u => ((dst (sI S (q 1) 1) (sI S (q 1) 2) 0 x < dst (sI S (q 1) 1) (sI S (q 1) 2) 0 y ∨ (dst (sI S (q 1) 1) (sI S (q 1) 2) 0 y = dst (sI S (q 1) 1) (sI S (q 1) 2) 0 x ∧ x < y)) ∧ v = some (.int (iI 1)) ∨ ¬(dst (sI S (q 1) 1) (sI S (q 1) 2) 0 x < dst (sI S (q 1) 1) (sI S (q 1) 2) 0 y ∨ (dst (sI S (q 1) 1) (sI S (q 1) 2) 0 y = dst (sI S (q 1) 1) (sI S (q 1) 2) 0 x ∧ x < y)) ∧ v = some (.int (iI 0))) ∧ S = u
set_option maxRecDepth 100000 in
set_option maxHeartbeats 4000000 in
theorem ct_X3_isNearer (l : Launch) (g : GG) (S : Sto) (q : Nat → Nat) (x : Int) (y : Int) (hT : Top S q) (hCf : Cf S q) (hx : isPl x ∧ x % 100 ≤ sI S (q 1) 1) (hy : isPl y ∧ y % 100 ≤ sI S (q 1) 1) : MetS l g yX3_isNearer cX3_isNearer 5 (some FieldType.boolean) 3 0 0 [.ref (q 1), .int (iI x), .int (iI y)] S (P_X3_isNearer S q x y) := by
  refine MetS.of (own := RX3) (lv := [(0, .ref (q 1)), (1, .int (iI x)), (2, .int (iI y))]) (by decide) rfl (Nat.le_of_ble_eq_true rfl) rfl ?_
  intro pX eX sX mX argsX belowX methX cX C hin
  refine KRg (fun hR => ?_)
  obtain ⟨hA1, hA2, hN1, hN2, hG1, hG2⟩ := id hCf
  obtain ⟨⟨hx1, hx2, hx3⟩, hx4⟩ := id hx
  obtain ⟨⟨hy1, hy2, hy3⟩, hy4⟩ := id hy
  refine KAload_n C dX3_isNearer_0 rfl 0 rfl ?_
  refine KIconst C dX3_isNearer_1 ?_
  refine KIload_n C dX3_isNearer_2 rfl 1 rfl ?_
  refine KCallV (As := [.int (iI 0), .int (iI x)]) (b := q 1) (st := []) C (ct_X3_between l g S q 0 x hT hCf (by omega) (by omega)) u_ml_RX3_67 u_im_yX3_between u_se_yX3_between u_in_RX3 u_co_yX3_between hd_yX3_between (hT.at0 1 4) (by decide) rfl rfl ⟨Nat.le_of_ble_eq_true rfl, Nat.le_of_ble_eq_true rfl⟩ ⟨Nat.le_of_ble_eq_true rfl, Nat.le_of_ble_eq_true rfl⟩ (Nat.le_of_ble_eq_true rfl) dX3_isNearer_3 rfl (fun v3 u3 hp3 => ?_)
  obtain ⟨rfl, rfl⟩ := hp3
  refine KSt (st2 := [.int (iI (dst (sI S (q 1) 1) (sI S (q 1) 2) 0 x))]) rfl ?_
  have hd1 := dst_b (N := sI S (q 1) 1) (G := sI S (q 1) 2) (x := 0) ⟨hN1, hN2⟩ ⟨hG1, hG2⟩ (by unfold isPl; omega) hx.1 (by omega) hx.2
  refine KIstore_n (lv' := [(3, .int (iI (dst (sI S (q 1) 1) (sI S (q 1) 2) 0 x))), (0, .ref (q 1)), (1, .int (iI x)), (2, .int (iI y))]) C dX3_isNearer_6 rfl (by decide) rfl ?_
  refine KAload_n C dX3_isNearer_7 rfl 1 rfl ?_
  refine KIconst C dX3_isNearer_8 ?_
  refine KIload_n C dX3_isNearer_9 rfl 3 rfl ?_
  refine KCallV (As := [.int (iI 0), .int (iI y)]) (b := q 1) (st := []) C (ct_X3_between l g S q 0 y hT hCf (by omega) (by omega)) u_ml_RX3_67 u_im_yX3_between u_se_yX3_between u_in_RX3 u_co_yX3_between hd_yX3_between (hT.at0 1 4) (by decide) rfl rfl ⟨Nat.le_of_ble_eq_true rfl, Nat.le_of_ble_eq_true rfl⟩ ⟨Nat.le_of_ble_eq_true rfl, Nat.le_of_ble_eq_true rfl⟩ (Nat.le_of_ble_eq_true rfl) dX3_isNearer_10 rfl (fun v10 u10 hp10 => ?_)
  obtain ⟨rfl, rfl⟩ := hp10
  refine KSt (st2 := [.int (iI (dst (sI S (q 1) 1) (sI S (q 1) 2) 0 y))]) rfl ?_
  have hd2 := dst_b (N := sI S (q 1) 1) (G := sI S (q 1) 2) (x := 0) ⟨hN1, hN2⟩ ⟨hG1, hG2⟩ (by unfold isPl; omega) hy.1 (by omega) hy.2
  refine KIstore (lv' := [(4, .int (iI (dst (sI S (q 1) 1) (sI S (q 1) 2) 0 y))), (3, .int (iI (dst (sI S (q 1) 1) (sI S (q 1) 2) 0 x))), (0, .ref (q 1)), (1, .int (iI x)), (2, .int (iI y))]) C dX3_isNearer_13 (by decide) rfl ?_
  refine KIload_n C dX3_isNearer_15 rfl 1 rfl ?_
  refine KIload C dX3_isNearer_16 0 rfl ?_
  refine KIcmp_lt (tgt := 32) C dX3_isNearer_18 (by decide) ⟨by omega, by omega⟩ ⟨by omega, by omega⟩ (fun c18 => ?_) (fun c18 => ?_)
  · refine KIconst C dX3_isNearer_32 ?_
    refine KGoto (tgt := 37) C dX3_isNearer_33 (by decide) ?_
    refine KIret C rfl rfl (by
      first | exact ⟨Or.inl ⟨by omega, rfl⟩, rfl⟩ | exact ⟨Or.inr ⟨by omega, rfl⟩, rfl⟩) (by decide) (by decide) dX3_isNearer_37
  · refine KIload_n C dX3_isNearer_21 rfl 1 rfl ?_
    refine KIload C dX3_isNearer_22 0 rfl ?_
    refine KIcmp_ne (tgt := 36) C dX3_isNearer_24 (by decide) ⟨by omega, by omega⟩ ⟨by omega, by omega⟩ (fun c24 => ?_) (fun c24 => ?_)
    · refine KIconst C dX3_isNearer_36 ?_
      refine KIret C rfl rfl (by
        first | exact ⟨Or.inl ⟨by omega, rfl⟩, rfl⟩ | exact ⟨Or.inr ⟨by omega, rfl⟩, rfl⟩) (by decide) (by decide) dX3_isNearer_37
    · refine KIload_n C dX3_isNearer_27 rfl 3 rfl ?_
      refine KIload_n C dX3_isNearer_28 rfl 4 rfl ?_
      refine KIcmp_ge (tgt := 36) C dX3_isNearer_29 (by decide) ⟨by omega, by omega⟩ ⟨by omega, by omega⟩ (fun c29 => ?_) (fun c29 => ?_)
      · refine KIconst C dX3_isNearer_36 ?_
        refine KIret C rfl rfl (by
          first | exact ⟨Or.inl ⟨by omega, rfl⟩, rfl⟩ | exact ⟨Or.inr ⟨by omega, rfl⟩, rfl⟩) (by decide) (by decide) dX3_isNearer_37
      · refine KIconst C dX3_isNearer_32 ?_
        refine KGoto (tgt := 37) C dX3_isNearer_33 (by decide) ?_
        refine KIret C rfl rfl (by
          first | exact ⟨Or.inl ⟨by omega, rfl⟩, rfl⟩ | exact ⟨Or.inr ⟨by omega, rfl⟩, rfl⟩) (by decide) (by decide) dX3_isNearer_37
def P_X3_insertPlace (S : Sto) (q : Nat → Nat) (x : Int) (n : Nat) : Option Value → Sto → Prop := fun v u => v = none ∧ u = wI S (row1 (sI S) (q 8) (insAt (sI S (q 8)) (insPosN (fun j => decide (dst (sI S (q 1) 1) (sI S (q 1) 2) 0 x < dst (sI S (q 1) 1) (sI S (q 1) 2) 0 (sI S (q 8) (j : Int)) ∨ (dst (sI S (q 1) 1) (sI S (q 1) 2) 0 (sI S (q 8) (j : Int)) = dst (sI S (q 1) 1) (sI S (q 1) 2) 0 x ∧ x < (sI S (q 8) (j : Int))))) n) n x))
set_option maxRecDepth 100000 in
set_option maxHeartbeats 4000000 in
theorem ct_X3_insertPlace (l : Launch) (g : GG) (S : Sto) (q : Nat → Nat) (x : Int) (n : Nat) (hT : Top S q) (hCf : Cf S q) (hx : isPl x ∧ x % 100 ≤ sI S (q 1) 1) (hn : n < 20) (hF : ∀ j : Nat, j < n → isPl (sI S (q 8) (j : Int)) ∧ sI S (q 8) (j : Int) % 100 ≤ sI S (q 1) 1) : MetS l g yX3_insertPlace cX3_insertPlace 4 (none) 4 0 0 [.ref (q 1), .int (iI x), .int (iI (n : Int))] S (P_X3_insertPlace S q x n) := by
  refine MetS.of (own := RX3) (lv := [(0, .ref (q 1)), (1, .int (iI x)), (2, .int (iI (n : Int)))]) (by decide) rfl (Nat.le_of_ble_eq_true rfl) rfl ?_
  intro pX eX sX mX argsX belowX methX cX C hin
  refine KRg (fun hR => ?_)
  obtain ⟨hA1, hA2, hN1, hN2, hG1, hG2⟩ := id hCf
  obtain ⟨⟨hx1, hx2, hx3⟩, hx4⟩ := id hx
  refine KIload_n C dX3_insertPlace_0 rfl 2 rfl ?_
  refine KIstore_n (lv' := [(3, .int (iI (n : Int))), (0, .ref (q 1)), (1, .int (iI x)), (2, .int (iI (n : Int)))]) C dX3_insertPlace_1 rfl (by decide) rfl ?_
  refine KSto (S2 := wI S (row1 (sI S) (q 8) (shf (sI S (q 8)) n n))) (by rw [shf_self, row1_self]) ?_
  refine KLv (lv' := [(0, .ref (q 1)), (1, .int (iI x)), (2, .int (iI (n : Int))), (3, .int (iI (n : Int)))]) [1, 2, 3, 0] rfl ?_
  have loop2 : ∀ (nX : Nat) (a : Nat), a < nX → (a ≤ n) → (insPosN (fun j => decide (dst (sI S (q 1) 1) (sI S (q 1) 2) 0 x < dst (sI S (q 1) 1) (sI S (q 1) 2) 0 (sI S (q 8) (j : Int)) ∨ (dst (sI S (q 1) 1) (sI S (q 1) 2) 0 (sI S (q 8) (j : Int)) = dst (sI S (q 1) 1) (sI S (q 1) 2) 0 x ∧ x < (sI S (q 8) (j : Int))))) n = insPosN (fun j => decide (dst (sI S (q 1) 1) (sI S (q 1) 2) 0 x < dst (sI S (q 1) 1) (sI S (q 1) 2) 0 (sI S (q 8) (j : Int)) ∨ (dst (sI S (q 1) 1) (sI S (q 1) 2) 0 (sI S (q 8) (j : Int)) = dst (sI S (q 1) 1) (sI S (q 1) 2) 0 x ∧ x < (sI S (q 8) (j : Int))))) a) → Wk pX l eX (rmK 4 0 0) sX mX argsX belowX methX cX (MQ belowX (QcG g (P_X3_insertPlace S q x n)) argsX sX 0 0 (ge (gB g))) g 4 0 0 2 [(0, .ref (q 1)), (1, .int (iI x)), (2, .int (iI (n : Int))), (3, .int (iI (a : Int)))] [] (wI S (row1 (sI S) (q 8) (shf (sI S (q 8)) a n))) := by
    intro nX
    induction nX with
    | zero => intro a hm; exact absurd hm (Nat.not_lt_zero _)
    | succ nX ih2 =>
      intro a hm2 ha hpos
      refine KRg (fun hR => ?_)
      have hq10 : sI (wI S (row1 (sI S) (q 8) (shf (sI S (q 8)) a n))) (q 1) 0 = sI S (q 1) 0 := row1_ne _ _ _ (hT.ne 1 8)
      have hq11 : sI (wI S (row1 (sI S) (q 8) (shf (sI S (q 8)) a n))) (q 1) 1 = sI S (q 1) 1 := row1_ne _ _ _ (hT.ne 1 8)
      have hq12 : sI (wI S (row1 (sI S) (q 8) (shf (sI S (q 8)) a n))) (q 1) 2 = sI S (q 1) 2 := row1_ne _ _ _ (hT.ne 1 8)
      refine KIload_n C dX3_insertPlace_2 rfl 3 rfl ?_
      refine KIf_le (tgt := 42) C dX3_insertPlace_3 (by decide) ⟨by omega, by omega⟩ (fun c3 => ?_) (fun c3 => ?_)
      · have e9 : insPosN (fun j => decide (dst (sI S (q 1) 1) (sI S (q 1) 2) 0 x < dst (sI S (q 1) 1) (sI S (q 1) 2) 0 (sI S (q 8) (j : Int)) ∨ (dst (sI S (q 1) 1) (sI S (q 1) 2) 0 (sI S (q 8) (j : Int)) = dst (sI S (q 1) 1) (sI S (q 1) 2) 0 x ∧ x < (sI S (q 8) (j : Int))))) n = a := hpos.trans (insPosN_f' (Or.inl (by omega)))
        refine KAload_n C dX3_insertPlace_42 rfl 0 rfl ?_
        refine KGetR (S := wI S (row1 (sI S) (q 8) (shf (sI S (q 8)) a n))) C ul_X3 rfl (by decide) 5 5 rfl (by decide) rfl u_fl_RX3_18 (hT.at0 1 4) (b := q 8) (hT.ptr 1 5 8) dX3_insertPlace_43 (fun _ h => h) ?_
        refine KIload_n C dX3_insertPlace_46 rfl 3 rfl ?_
        refine KIload_n C dX3_insertPlace_47 rfl 1 rfl ?_
        refine KIast (S := wI S (row1 (sI S) (q 8) (shf (sI S (q 8)) a n))) C 20 (hT.at0 8 20) (hT.ln0 8 20) ⟨by omega, by omega⟩ (by omega) ⟨by omega, by omega⟩ dX3_insertPlace_48 ?_
        refine KSto (S2 := wI S (row1 (sI S) (q 8) (insAt (sI S (q 8)) (insPosN (fun j => decide (dst (sI S (q 1) 1) (sI S (q 1) 2) 0 x < dst (sI S (q 1) 1) (sI S (q 1) 2) 0 (sI S (q 8) (j : Int)) ∨ (dst (sI S (q 1) 1) (sI S (q 1) 2) 0 (sI S (q 8) (j : Int)) = dst (sI S (q 1) 1) (sI S (q 1) 2) 0 x ∧ x < (sI S (q 8) (j : Int))))) n) n x))) (by rw [e9]; exact congrArg (wI S) (up2_row1 _ _ _ _ _)) ?_
        refine KVret C rfl (by
          exact ⟨rfl, rfl⟩) (by decide) (by decide) dX3_insertPlace_49
      · have hFa := hF (a - 1) (by omega)
        obtain ⟨⟨hf1, hf2, hf3⟩, hf4⟩ := id hFa
        refine KAload_n C dX3_insertPlace_6 rfl 0 rfl ?_
        refine KIload_n C dX3_insertPlace_7 rfl 1 rfl ?_
        refine KAload_n C dX3_insertPlace_8 rfl 0 rfl ?_
        refine KGetR (S := wI S (row1 (sI S) (q 8) (shf (sI S (q 8)) a n))) C ul_X3 rfl (by decide) 5 5 rfl (by decide) rfl u_fl_RX3_18 (hT.at0 1 4) (b := q 8) (hT.ptr 1 5 8) dX3_insertPlace_9 (fun _ h => h) ?_
        refine KIload_n C dX3_insertPlace_12 rfl 3 rfl ?_
        refine KIconst C dX3_insertPlace_13 ?_
        refine KIsub C dX3_insertPlace_14 ?_
        refine KTop (congrArg iI (show (a : Int) - 1 = ((a - 1 : Nat) : Int) from (by omega))) ?_
        refine KIald (S := wI S (row1 (sI S) (q 8) (shf (sI S (q 8)) a n)))  (v := sI S (q 8) ((a - 1 : Nat) : Int)) C 20 (hT.at0 8 20) (hT.ln0 8 20) ⟨by omega, by omega⟩ (by omega) ((row1_same _ _ _ _).trans (shf_lo _ (by omega))) dX3_insertPlace_15 ?_
        have rb1 := hR.b (q 8) ((a - 1 : Nat) : Int) (v := sI S (q 8) ((a - 1 : Nat) : Int)) ((row1_same _ _ _ _).trans (shf_lo _ (by omega)))
        refine KCallV (As := [.int (iI x), .int (iI (sI S (q 8) ((a - 1 : Nat) : Int)))]) (b := q 1) (st := []) C (ct_X3_isNearer l g (wI S (row1 (sI S) (q 8) (shf (sI S (q 8)) a n))) q x (sI S (q 8) ((a - 1 : Nat) : Int)) hT (by unfold Cf; rw [hq10, hq11, hq12]; exact hCf) (by rw [hq11]; exact hx) (by rw [hq11]; exact hFa)) u_ml_RX3_63 u_im_yX3_isNearer u_se_yX3_isNearer u_in_RX3 u_co_yX3_isNearer hd_yX3_isNearer (hT.at0 1 4) (by decide) rfl rfl ⟨Nat.le_of_ble_eq_true rfl, Nat.le_of_ble_eq_true rfl⟩ ⟨Nat.le_of_ble_eq_true rfl, Nat.le_of_ble_eq_true rfl⟩ (Nat.le_of_ble_eq_true rfl) dX3_insertPlace_16 rfl (fun v16 u16 hp16 => ?_)
        obtain ⟨⟨b16, rfl⟩ | ⟨b16, rfl⟩, rfl⟩ := hp16
        · refine KSt (st2 := [.int (iI 1)]) rfl ?_
          rw [hq11, hq12] at b16
          refine KIf_eq (tgt := 42) C dX3_insertPlace_19 (by decide) ⟨by omega, by omega⟩ (fun h => absurd h (by decide)) (fun _ => ?_)
          refine KAload_n C dX3_insertPlace_22 rfl 0 rfl ?_
          refine KGetR (S := wI S (row1 (sI S) (q 8) (shf (sI S (q 8)) a n))) C ul_X3 rfl (by decide) 5 5 rfl (by decide) rfl u_fl_RX3_18 (hT.at0 1 4) (b := q 8) (hT.ptr 1 5 8) dX3_insertPlace_23 (fun _ h => h) ?_
          refine KIload_n C dX3_insertPlace_26 rfl 3 rfl ?_
          refine KAload_n C dX3_insertPlace_27 rfl 0 rfl ?_
          refine KGetR (S := wI S (row1 (sI S) (q 8) (shf (sI S (q 8)) a n))) C ul_X3 rfl (by decide) 5 5 rfl (by decide) rfl u_fl_RX3_18 (hT.at0 1 4) (b := q 8) (hT.ptr 1 5 8) dX3_insertPlace_28 (fun _ h => h) ?_
          refine KIload_n C dX3_insertPlace_31 rfl 3 rfl ?_
          refine KIconst C dX3_insertPlace_32 ?_
          refine KIsub C dX3_insertPlace_33 ?_
          refine KTop (congrArg iI (show (a : Int) - 1 = ((a - 1 : Nat) : Int) from (by omega))) ?_
          refine KIald (S := wI S (row1 (sI S) (q 8) (shf (sI S (q 8)) a n)))  (v := sI S (q 8) ((a - 1 : Nat) : Int)) C 20 (hT.at0 8 20) (hT.ln0 8 20) ⟨by omega, by omega⟩ (by omega) ((row1_same _ _ _ _).trans (shf_lo _ (by omega))) dX3_insertPlace_34 ?_
          have rb2 := hR.b (q 8) ((a - 1 : Nat) : Int) (v := sI S (q 8) ((a - 1 : Nat) : Int)) ((row1_same _ _ _ _).trans (shf_lo _ (by omega)))
          refine KIast (S := wI S (row1 (sI S) (q 8) (shf (sI S (q 8)) a n))) C 20 (hT.at0 8 20) (hT.ln0 8 20) ⟨by omega, by omega⟩ (by omega) ⟨by omega, by omega⟩ dX3_insertPlace_35 ?_
          refine KSto (S2 := wI S (row1 (sI S) (q 8) (shf (sI S (q 8)) (a - 1) n))) (congrArg (wI S) ((up2_row1 _ _ _ _ _).trans (congrArg _ (shf_step' _ (by omega) ha)))) ?_
          refine KIinc (v := ((a - 1 : Nat) : Int)) (lv' := [(3, .int (iI ((a - 1 : Nat) : Int))), (0, .ref (q 1)), (1, .int (iI x)), (2, .int (iI (n : Int)))]) C dX3_insertPlace_36 3 rfl (by omega) (by decide) rfl ?_
          refine KGoto (tgt := 2) C dX3_insertPlace_39 (by decide) ?_
          refine KLv (lv' := [(0, .ref (q 1)), (1, .int (iI x)), (2, .int (iI (n : Int))), (3, .int (iI ((a - 1 : Nat) : Int)))]) [1, 2, 3, 0] rfl ?_
          exact ih2 (a - 1) (by omega) (by omega) (hpos.trans (insPosN_t' (by omega) (decide_eq_true (by first | assumption | omega))))
        · refine KSt (st2 := [.int (iI 0)]) rfl ?_
          rw [hq11, hq12] at b16
          have e9 : insPosN (fun j => decide (dst (sI S (q 1) 1) (sI S (q 1) 2) 0 x < dst (sI S (q 1) 1) (sI S (q 1) 2) 0 (sI S (q 8) (j : Int)) ∨ (dst (sI S (q 1) 1) (sI S (q 1) 2) 0 (sI S (q 8) (j : Int)) = dst (sI S (q 1) 1) (sI S (q 1) 2) 0 x ∧ x < (sI S (q 8) (j : Int))))) n = a := hpos.trans (insPosN_f' (Or.inr ⟨by omega, decide_eq_false b16⟩))
          refine KIf_eq (tgt := 42) C dX3_insertPlace_19 (by decide) ⟨by omega, by omega⟩ (fun _ => ?_) (fun h => absurd h (by decide))
          refine KAload_n C dX3_insertPlace_42 rfl 0 rfl ?_
          refine KGetR (S := wI S (row1 (sI S) (q 8) (shf (sI S (q 8)) a n))) C ul_X3 rfl (by decide) 5 5 rfl (by decide) rfl u_fl_RX3_18 (hT.at0 1 4) (b := q 8) (hT.ptr 1 5 8) dX3_insertPlace_43 (fun _ h => h) ?_
          refine KIload_n C dX3_insertPlace_46 rfl 3 rfl ?_
          refine KIload_n C dX3_insertPlace_47 rfl 1 rfl ?_
          refine KIast (S := wI S (row1 (sI S) (q 8) (shf (sI S (q 8)) a n))) C 20 (hT.at0 8 20) (hT.ln0 8 20) ⟨by omega, by omega⟩ (by omega) ⟨by omega, by omega⟩ dX3_insertPlace_48 ?_
          refine KSto (S2 := wI S (row1 (sI S) (q 8) (insAt (sI S (q 8)) (insPosN (fun j => decide (dst (sI S (q 1) 1) (sI S (q 1) 2) 0 x < dst (sI S (q 1) 1) (sI S (q 1) 2) 0 (sI S (q 8) (j : Int)) ∨ (dst (sI S (q 1) 1) (sI S (q 1) 2) 0 (sI S (q 8) (j : Int)) = dst (sI S (q 1) 1) (sI S (q 1) 2) 0 x ∧ x < (sI S (q 8) (j : Int))))) n) n x))) (by rw [e9]; exact congrArg (wI S) (up2_row1 _ _ _ _ _)) ?_
          refine KVret C rfl (by
            exact ⟨rfl, rfl⟩) (by decide) (by decide) dX3_insertPlace_49
  exact loop2 _ n (Nat.lt_succ_self _) (by omega) rfl
def P_X3_insertProduct (S : Sto) (q : Nat → Nat) (x : Int) (n : Nat) : Option Value → Sto → Prop := fun v u => v = none ∧ u = wI S (row1 (sI S) (q 9) (insAt (sI S (q 9)) (insPosN (fun j => decide (sI S (q 7) (sI S (q 9) (j : Int)) < sI S (q 7) x)) n) n x))
set_option maxRecDepth 100000 in
set_option maxHeartbeats 4000000 in
theorem ct_X3_insertProduct (l : Launch) (g : GG) (S : Sto) (q : Nat → Nat) (x : Int) (n : Nat) (hT : Top S q) (hx : 0 ≤ x ∧ x < 20) (hn : n < 20) (hF : ∀ j : Nat, j < n → 0 ≤ sI S (q 9) (j : Int) ∧ sI S (q 9) (j : Int) < 20) : MetS l g yX3_insertProduct cX3_insertProduct 4 (none) 1 0 0 [.ref (q 1), .int (iI x), .int (iI (n : Int))] S (P_X3_insertProduct S q x n) := by
  refine MetS.of (own := RX3) (lv := [(0, .ref (q 1)), (1, .int (iI x)), (2, .int (iI (n : Int)))]) (by decide) rfl (Nat.le_of_ble_eq_true rfl) rfl ?_
  intro pX eX sX mX argsX belowX methX cX C hin
  refine KRg (fun hR => ?_)
  refine KIload_n C dX3_insertProduct_0 rfl 2 rfl ?_
  refine KIstore_n (lv' := [(3, .int (iI (n : Int))), (0, .ref (q 1)), (1, .int (iI x)), (2, .int (iI (n : Int)))]) C dX3_insertProduct_1 rfl (by decide) rfl ?_
  refine KSto (S2 := wI S (row1 (sI S) (q 9) (shf (sI S (q 9)) n n))) (by rw [shf_self, row1_self]) ?_
  refine KLv (lv' := [(0, .ref (q 1)), (1, .int (iI x)), (2, .int (iI (n : Int))), (3, .int (iI (n : Int)))]) [1, 2, 3, 0] rfl ?_
  have loop2 : ∀ (nX : Nat) (a : Nat), a < nX → (a ≤ n) → (insPosN (fun j => decide (sI S (q 7) (sI S (q 9) (j : Int)) < sI S (q 7) x)) n = insPosN (fun j => decide (sI S (q 7) (sI S (q 9) (j : Int)) < sI S (q 7) x)) a) → Wk pX l eX (rmK 1 0 0) sX mX argsX belowX methX cX (MQ belowX (QcG g (P_X3_insertProduct S q x n)) argsX sX 0 0 (ge (gB g))) g 4 0 0 2 [(0, .ref (q 1)), (1, .int (iI x)), (2, .int (iI (n : Int))), (3, .int (iI (a : Int)))] [] (wI S (row1 (sI S) (q 9) (shf (sI S (q 9)) a n))) := by
    intro nX
    induction nX with
    | zero => intro a hm; exact absurd hm (Nat.not_lt_zero _)
    | succ nX ih2 =>
      intro a hm2 ha hpos
      refine KRg (fun hR => ?_)
      refine KIload_n C dX3_insertProduct_2 rfl 3 rfl ?_
      refine KIf_le (tgt := 48) C dX3_insertProduct_3 (by decide) ⟨by omega, by omega⟩ (fun c3 => ?_) (fun c3 => ?_)
      · have e9 : insPosN (fun j => decide (sI S (q 7) (sI S (q 9) (j : Int)) < sI S (q 7) x)) n = a := hpos.trans (insPosN_f' (Or.inl (by omega)))
        refine KAload_n C dX3_insertProduct_48 rfl 0 rfl ?_
        refine KGetR (S := wI S (row1 (sI S) (q 9) (shf (sI S (q 9)) a n))) C ul_X3 rfl (by decide) 6 6 rfl (by decide) rfl u_fl_RX3_21 (hT.at0 1 4) (b := q 9) (hT.ptr 1 6 9) dX3_insertProduct_49 (fun _ h => h) ?_
        refine KIload_n C dX3_insertProduct_52 rfl 3 rfl ?_
        refine KIload_n C dX3_insertProduct_53 rfl 1 rfl ?_
        refine KIast (S := wI S (row1 (sI S) (q 9) (shf (sI S (q 9)) a n))) C 20 (hT.at0 9 20) (hT.ln0 9 20) ⟨by omega, by omega⟩ (by omega) ⟨by omega, by omega⟩ dX3_insertProduct_54 ?_
        refine KSto (S2 := wI S (row1 (sI S) (q 9) (insAt (sI S (q 9)) (insPosN (fun j => decide (sI S (q 7) (sI S (q 9) (j : Int)) < sI S (q 7) x)) n) n x))) (by rw [e9]; exact congrArg (wI S) (up2_row1 _ _ _ _ _)) ?_
        refine KVret C rfl (by
          exact ⟨rfl, rfl⟩) (by decide) (by decide) dX3_insertProduct_55
      · have hFa := hF (a - 1) (by omega)
        refine KAload_n C dX3_insertProduct_6 rfl 0 rfl ?_
        refine KGetR (S := wI S (row1 (sI S) (q 9) (shf (sI S (q 9)) a n))) C ul_X3 rfl (by decide) 4 4 rfl (by decide) rfl u_fl_RX3_15 (hT.at0 1 4) (b := q 7) (hT.ptr 1 4 7) dX3_insertProduct_7 (fun _ h => h) ?_
        refine KIload_n C dX3_insertProduct_10 rfl 1 rfl ?_
        refine KIald (S := wI S (row1 (sI S) (q 9) (shf (sI S (q 9)) a n)))  (v := sI S (q 7) x) C 20 (hT.at0 7 20) (hT.ln0 7 20) ⟨by omega, by omega⟩ (by omega) (row1_ne _ _ _ (hT.ne 7 9)) dX3_insertProduct_11 ?_
        have rb1 := hR.b (q 7) x (v := sI S (q 7) x) (row1_ne _ _ _ (hT.ne 7 9))
        refine KAload_n C dX3_insertProduct_12 rfl 0 rfl ?_
        refine KGetR (S := wI S (row1 (sI S) (q 9) (shf (sI S (q 9)) a n))) C ul_X3 rfl (by decide) 4 4 rfl (by decide) rfl u_fl_RX3_15 (hT.at0 1 4) (b := q 7) (hT.ptr 1 4 7) dX3_insertProduct_13 (fun _ h => h) ?_
        refine KAload_n C dX3_insertProduct_16 rfl 0 rfl ?_
        refine KGetR (S := wI S (row1 (sI S) (q 9) (shf (sI S (q 9)) a n))) C ul_X3 rfl (by decide) 6 6 rfl (by decide) rfl u_fl_RX3_21 (hT.at0 1 4) (b := q 9) (hT.ptr 1 6 9) dX3_insertProduct_17 (fun _ h => h) ?_
        refine KIload_n C dX3_insertProduct_20 rfl 3 rfl ?_
        refine KIconst C dX3_insertProduct_21 ?_
        refine KIsub C dX3_insertProduct_22 ?_
        refine KTop (congrArg iI (show (a : Int) - 1 = ((a - 1 : Nat) : Int) from (by omega))) ?_
        refine KIald (S := wI S (row1 (sI S) (q 9) (shf (sI S (q 9)) a n)))  (v := sI S (q 9) ((a - 1 : Nat) : Int)) C 20 (hT.at0 9 20) (hT.ln0 9 20) ⟨by omega, by omega⟩ (by omega) ((row1_same _ _ _ _).trans (shf_lo _ (by omega))) dX3_insertProduct_23 ?_
        have rb2 := hR.b (q 9) ((a - 1 : Nat) : Int) (v := sI S (q 9) ((a - 1 : Nat) : Int)) ((row1_same _ _ _ _).trans (shf_lo _ (by omega)))
        refine KIald (S := wI S (row1 (sI S) (q 9) (shf (sI S (q 9)) a n)))  (v := sI S (q 7) (sI S (q 9) ((a - 1 : Nat) : Int))) C 20 (hT.at0 7 20) (hT.ln0 7 20) ⟨by omega, by omega⟩ (by omega) (row1_ne _ _ _ (hT.ne 7 9)) dX3_insertProduct_24 ?_
        have rb3 := hR.b (q 7) (sI S (q 9) ((a - 1 : Nat) : Int)) (v := sI S (q 7) (sI S (q 9) ((a - 1 : Nat) : Int))) (row1_ne _ _ _ (hT.ne 7 9))
        refine KIcmp_le (tgt := 48) C dX3_insertProduct_25 (by decide) ⟨by omega, by omega⟩ ⟨by omega, by omega⟩ (fun c25 => ?_) (fun c25 => ?_)
        · have e9 : insPosN (fun j => decide (sI S (q 7) (sI S (q 9) (j : Int)) < sI S (q 7) x)) n = a := hpos.trans (insPosN_f' (Or.inr ⟨by omega, decide_eq_false (by omega)⟩))
          refine KAload_n C dX3_insertProduct_48 rfl 0 rfl ?_
          refine KGetR (S := wI S (row1 (sI S) (q 9) (shf (sI S (q 9)) a n))) C ul_X3 rfl (by decide) 6 6 rfl (by decide) rfl u_fl_RX3_21 (hT.at0 1 4) (b := q 9) (hT.ptr 1 6 9) dX3_insertProduct_49 (fun _ h => h) ?_
          refine KIload_n C dX3_insertProduct_52 rfl 3 rfl ?_
          refine KIload_n C dX3_insertProduct_53 rfl 1 rfl ?_
          refine KIast (S := wI S (row1 (sI S) (q 9) (shf (sI S (q 9)) a n))) C 20 (hT.at0 9 20) (hT.ln0 9 20) ⟨by omega, by omega⟩ (by omega) ⟨by omega, by omega⟩ dX3_insertProduct_54 ?_
          refine KSto (S2 := wI S (row1 (sI S) (q 9) (insAt (sI S (q 9)) (insPosN (fun j => decide (sI S (q 7) (sI S (q 9) (j : Int)) < sI S (q 7) x)) n) n x))) (by rw [e9]; exact congrArg (wI S) (up2_row1 _ _ _ _ _)) ?_
          refine KVret C rfl (by
            exact ⟨rfl, rfl⟩) (by decide) (by decide) dX3_insertProduct_55
        · refine KAload_n C dX3_insertProduct_28 rfl 0 rfl ?_
          refine KGetR (S := wI S (row1 (sI S) (q 9) (shf (sI S (q 9)) a n))) C ul_X3 rfl (by decide) 6 6 rfl (by decide) rfl u_fl_RX3_21 (hT.at0 1 4) (b := q 9) (hT.ptr 1 6 9) dX3_insertProduct_29 (fun _ h => h) ?_
          refine KIload_n C dX3_insertProduct_32 rfl 3 rfl ?_
          refine KAload_n C dX3_insertProduct_33 rfl 0 rfl ?_
          refine KGetR (S := wI S (row1 (sI S) (q 9) (shf (sI S (q 9)) a n))) C ul_X3 rfl (by decide) 6 6 rfl (by decide) rfl u_fl_RX3_21 (hT.at0 1 4) (b := q 9) (hT.ptr 1 6 9) dX3_insertProduct_34 (fun _ h => h) ?_
          refine KIload_n C dX3_insertProduct_37 rfl 3 rfl ?_
          refine KIconst C dX3_insertProduct_38 ?_
          refine KIsub C dX3_insertProduct_39 ?_
          refine KTop (congrArg iI (show (a : Int) - 1 = ((a - 1 : Nat) : Int) from (by omega))) ?_
          refine KIald (S := wI S (row1 (sI S) (q 9) (shf (sI S (q 9)) a n)))  (v := sI S (q 9) ((a - 1 : Nat) : Int)) C 20 (hT.at0 9 20) (hT.ln0 9 20) ⟨by omega, by omega⟩ (by omega) ((row1_same _ _ _ _).trans (shf_lo _ (by omega))) dX3_insertProduct_40 ?_
          have rb4 := hR.b (q 9) ((a - 1 : Nat) : Int) (v := sI S (q 9) ((a - 1 : Nat) : Int)) ((row1_same _ _ _ _).trans (shf_lo _ (by omega)))
          refine KIast (S := wI S (row1 (sI S) (q 9) (shf (sI S (q 9)) a n))) C 20 (hT.at0 9 20) (hT.ln0 9 20) ⟨by omega, by omega⟩ (by omega) ⟨by omega, by omega⟩ dX3_insertProduct_41 ?_
          refine KSto (S2 := wI S (row1 (sI S) (q 9) (shf (sI S (q 9)) (a - 1) n))) (congrArg (wI S) ((up2_row1 _ _ _ _ _).trans (congrArg _ (shf_step' _ (by omega) ha)))) ?_
          refine KIinc (v := ((a - 1 : Nat) : Int)) (lv' := [(3, .int (iI ((a - 1 : Nat) : Int))), (0, .ref (q 1)), (1, .int (iI x)), (2, .int (iI (n : Int)))]) C dX3_insertProduct_42 3 rfl (by omega) (by decide) rfl ?_
          refine KGoto (tgt := 2) C dX3_insertProduct_45 (by decide) ?_
          refine KLv (lv' := [(0, .ref (q 1)), (1, .int (iI x)), (2, .int (iI (n : Int))), (3, .int (iI ((a - 1 : Nat) : Int)))]) [1, 2, 3, 0] rfl ?_
          exact ih2 (a - 1) (by omega) (by omega) (hpos.trans (insPosN_t' (by omega) (decide_eq_true (by first | assumption | omega))))
  exact loop2 _ n (Nat.lt_succ_self _) (by omega) rfl
def P_X3_rearrange (S : Sto) (q : Nat → Nat) (z : Sig) : Option Value → Sto → Prop := fun v u => ∃ R Q, v = some (.int (iI (asg (zP z) (rkL z 20) (spL z 20) (rkL z 20).length).1)) ∧ u = wI S (row1 (lcF S q R Q) (q 6) (asg (zP z) (rkL z 20) (spL z 20) (rkL z 20).length).2)
set_option maxRecDepth 100000 in
set_option maxHeartbeats 4000000 in
theorem ct_X3_rearrange (l : Launch) (g : GG) (S : Sto) (q : Nat → Nat) (z : Sig) (hT : Top S q) (hW : Wf z) (hWh : Whs S q z) : MetS l g yX3_rearrange cX3_rearrange 4 (some FieldType.int) 5 0 0 [.ref (q 1)] S (P_X3_rearrange S q z) := by
  refine MetS.of (own := RX3) (lv := [(0, .ref (q 1))]) (by decide) rfl (Nat.le_of_ble_eq_true rfl) rfl ?_
  intro pX eX sX mX argsX belowX methX cX C hin
  refine KRg (fun hR => ?_)
  obtain ⟨e10, e11, e12, e6, e7, -⟩ := id hWh
  have hC := hW.1
  have hCf : Cf S q := ⟨by omega, by omega, by omega, by omega, by omega, by omega⟩
  obtain ⟨hA1, hA2, hN1, hN2, hG1, hG2⟩ := id hCf
  refine KIconst C dX3_rearrange_0 ?_
  refine KIstore_n (lv' := [(1, .int (iI 0)), (0, .ref (q 1))]) C dX3_rearrange_1 rfl (by decide) rfl ?_
  refine KIconst C dX3_rearrange_2 ?_
  refine KIstore_n (lv' := [(2, .int (iI 0)), (1, .int (iI 0)), (0, .ref (q 1))]) C dX3_rearrange_3 rfl (by decide) rfl ?_
  refine KSto (S2 := wI S (lcF S q (sI S (q 9)) (sI S (q 8)))) (by show S = wI S (row1 (row1 (sI S) (q 9) (sI S (q 9))) (q 8) (sI S (q 8))); rw [row1_self]; exact congrArg (wI S) (row1_self (sI S) (q 8)).symm) ?_
  refine KLv (lv' := [(0, .ref (q 1)), (1, .int (iI 0)), (2, .int (iI 0))]) [2, 1, 0] rfl ?_
  have loop4 : ∀ (nX : Nat) (p : Nat) (R : Int → Int) (Q : Int → Int), 20 - p < nX → (p ≤ 20) → (HldR R (rkL z p)) → (HldP Q (zP z) (spL z p)) → Wk pX l eX (rmK 5 0 0) sX mX argsX belowX methX cX (MQ belowX (QcG g (P_X3_rearrange S q z)) argsX sX 0 0 (ge (gB g))) g 4 0 0 4 [(0, .ref (q 1)), (1, .int (iI ((rkL z p).length : Int))), (2, .int (iI (p : Int)))] [] (wI S (lcF S q R Q)) := by
    intro nX
    induction nX with
    | zero => intro p R Q hm; exact absurd hm (Nat.not_lt_zero _)
    | succ nX ih4 =>
      intro p R Q hm4 hp hRr hQq
      refine KRg (fun hR => ?_)
      have hrl := rkL_le z p
      refine KIload_n C dX3_rearrange_4 rfl 2 rfl ?_
      refine KBipush C dX3_rearrange_5 (by decide) ?_
      refine KIcmp_ge (tgt := 46) C dX3_rearrange_7 (by decide) ⟨by omega, by omega⟩ ⟨by omega, by omega⟩ (fun c7 => ?_) (fun c7 => ?_)
      · refine KIconst C dX3_rearrange_46 ?_
        refine KIstore_n (lv' := [(2, .int (iI 0)), (0, .ref (q 1)), (1, .int (iI ((rkL z p).length : Int)))]) C dX3_rearrange_47 rfl (by decide) rfl ?_
        refine KIconst C dX3_rearrange_48 ?_
        refine KIstore_n (lv' := [(3, .int (iI 0)), (2, .int (iI 0)), (0, .ref (q 1)), (1, .int (iI ((rkL z p).length : Int)))]) C dX3_rearrange_49 rfl (by decide) rfl ?_
        refine KSto (S2 := wI S (row1 (lcF S q R Q) (q 6) (asg (zP z) (rkL z p) (spL z p) 0).2)) (by rw [show (asg (zP z) (rkL z p) (spL z p) 0).2 = lcF S q R Q (q 6) from (funext fun j => (lcF_at hT R Q 6 j).trans (congrFun e6 j)).symm, row1_self]) ?_
        refine KLv (lv' := [(0, .ref (q 1)), (1, .int (iI ((rkL z p).length : Int))), (2, .int (iI 0)), (3, .int (iI 0))]) [2, 3, 1, 0] rfl ?_
        have loop50 : ∀ (nX : Nat) (k : Nat), 20 - k < nX → (k ≤ (rkL z p).length) → Wk pX l eX (rmK 5 0 0) sX mX argsX belowX methX cX (MQ belowX (QcG g (P_X3_rearrange S q z)) argsX sX 0 0 (ge (gB g))) g 4 0 0 50 [(0, .ref (q 1)), (1, .int (iI ((rkL z p).length : Int))), (2, .int (iI ((asg (zP z) (rkL z p) (spL z p) k).1))), (3, .int (iI (k : Int)))] [] (wI S (row1 (lcF S q R Q) (q 6) (asg (zP z) (rkL z p) (spL z p) k).2)) := by
          intro nX
          induction nX with
          | zero => intro k hm; exact absurd hm (Nat.not_lt_zero _)
          | succ nX ih50 =>
            intro k hm50 hk
            refine KRg (fun hR => ?_)
            have hab := asg_b (z := z) (rk := rkL z p) (sp := spL z p) k
            refine KIload_n C dX3_rearrange_50 rfl 3 rfl ?_
            refine KIload_n C dX3_rearrange_51 rfl 1 rfl ?_
            refine KIcmp_ge (tgt := 89) C dX3_rearrange_52 (by decide) ⟨by omega, by omega⟩ ⟨by omega, by omega⟩ (fun c52 => ?_) (fun c52 => ?_)
            · refine KIload_n C dX3_rearrange_89 rfl 2 rfl ?_
              refine KIret C rfl rfl (by
                have hk9 : k = (rkL z p).length := by omega
                have hp20 : p = 20 := by omega
                subst hk9
                subst hp20
                exact ⟨R, Q, rfl, rfl⟩) (by decide) (by decide) dX3_rearrange_90
            · refine KAload_n C dX3_rearrange_55 rfl 0 rfl ?_
              refine KAload_n C dX3_rearrange_56 rfl 0 rfl ?_
              refine KGetR (S := wI S (row1 (lcF S q R Q) (q 6) (asg (zP z) (rkL z p) (spL z p) k).2)) C ul_X3 rfl (by decide) 6 6 rfl (by decide) rfl u_fl_RX3_21 (hT.at0 1 4) (b := q 9) (hT.ptr 1 6 9) dX3_rearrange_57 (fun _ h => h) ?_
              refine KIload_n C dX3_rearrange_60 rfl 3 rfl ?_
              refine KIald (S := wI S (row1 (lcF S q R Q) (q 6) (asg (zP z) (rkL z p) (spL z p) k).2))  (v := (((rkL z p).getD k 0 : Nat) : Int)) C 20 (hT.at0 9 20) (hT.ln0 9 20) ⟨by omega, by omega⟩ (by omega) ((row1_ne _ _ _ (hT.ne 9 6)).trans ((lcF_9 hT R Q _).trans (hRr k (by omega)))) dX3_rearrange_61 ?_
              have rb1 := hR.b (q 9) (k : Int) (v := (((rkL z p).getD k 0 : Nat) : Int)) ((row1_ne _ _ _ (hT.ne 9 6)).trans ((lcF_9 hT R Q _).trans (hRr k (by omega))))
              have hrm := (rkL_mem z p k (by omega)).1
              refine KAload_n C dX3_rearrange_62 rfl 0 rfl ?_
              refine KGetR (S := wI S (row1 (lcF S q R Q) (q 6) (asg (zP z) (rkL z p) (spL z p) k).2)) C ul_X3 rfl (by decide) 5 5 rfl (by decide) rfl u_fl_RX3_18 (hT.at0 1 4) (b := q 8) (hT.ptr 1 5 8) dX3_rearrange_63 (fun _ h => h) ?_
              refine KIload_n C dX3_rearrange_66 rfl 3 rfl ?_
              refine KIald (S := wI S (row1 (lcF S q R Q) (q 6) (asg (zP z) (rkL z p) (spL z p) k).2))  (v := zP z (((spL z p).getD k 0 : Nat) : Int)) C 20 (hT.at0 8 20) (hT.ln0 8 20) ⟨by omega, by omega⟩ (by omega) ((row1_ne _ _ _ (hT.ne 8 6)).trans ((lcF_8 R Q _).trans (hQq k (by rw [rk_sp_len]; omega)))) dX3_rearrange_67 ?_
              have rb2 := hR.b (q 8) (k : Int) (v := zP z (((spL z p).getD k 0 : Nat) : Int)) ((row1_ne _ _ _ (hT.ne 8 6)).trans ((lcF_8 R Q _).trans (hQq k (by rw [rk_sp_len]; omega))))
              have hpk := hW.plI (x := (((spL z p).getD k 0 : Nat) : Int)) (by have := (spL_mem z p k (by rw [rk_sp_len]; omega)).1; omega)
              have hab2 := hR.b (q 6) (((rkL z p).getD k 0 : Nat) : Int) (v := (asg (zP z) (rkL z p) (spL z p) k).2 (((rkL z p).getD k 0 : Nat) : Int)) (row1_same _ _ _ _)
              refine KCallV (As := [.int (iI (((rkL z p).getD k 0 : Nat) : Int)), .int (iI (zP z (((spL z p).getD k 0 : Nat) : Int)))]) (b := q 1) (st := []) C (ct_X3_move l g (wI S (row1 (lcF S q R Q) (q 6) (asg (zP z) (rkL z p) (spL z p) k).2)) q (((rkL z p).getD k 0 : Nat) : Int) (zP z (((spL z p).getD k 0 : Nat) : Int)) hT (by omega) (⟨by omega, by omega⟩)) u_ml_RX3_60 u_im_yX3_move u_se_yX3_move u_in_RX3 u_co_yX3_move hd_yX3_move (hT.at0 1 4) (by decide) rfl rfl ⟨Nat.le_of_ble_eq_true rfl, Nat.le_of_ble_eq_true rfl⟩ ⟨Nat.le_of_ble_eq_true rfl, Nat.le_of_ble_eq_true rfl⟩ (Nat.le_of_ble_eq_true rfl) dX3_rearrange_68 rfl (fun v68 u68 hp68 => ?_)
              obtain ⟨rfl, rfl⟩ := hp68
              refine KSt (st2 := [.int (iI (sI (wI S (row1 (lcF S q R Q) (q 6) (asg (zP z) (rkL z p) (spL z p) k).2)) (q 6) (((rkL z p).getD k 0 : Nat) : Int)))]) rfl ?_
              refine KRg (fun hR => ?_)
              refine KTop (congrArg iI (show sI (wI S (row1 (lcF S q R Q) (q 6) (asg (zP z) (rkL z p) (spL z p) k).2)) (q 6) (((rkL z p).getD k 0 : Nat) : Int) = (asg (zP z) (rkL z p) (spL z p) k).2 (((rkL z p).getD k 0 : Nat) : Int) from (row1_same _ _ _ _))) ?_
              refine KSto (S2 := wI S (row1 (lcF S q R Q) (q 6) (asg (zP z) (rkL z p) (spL z p) (k + 1)).2)) (congrArg (wI S) (up2_row1 _ _ _ _ _)) ?_
              refine KAload_n C dX3_rearrange_71 rfl 0 rfl ?_
              refine KGetR (S := wI S (row1 (lcF S q R Q) (q 6) (asg (zP z) (rkL z p) (spL z p) (k + 1)).2)) C ul_X3 rfl (by decide) 5 5 rfl (by decide) rfl u_fl_RX3_18 (hT.at0 1 4) (b := q 8) (hT.ptr 1 5 8) dX3_rearrange_72 (fun _ h => h) ?_
              refine KIload_n C dX3_rearrange_75 rfl 3 rfl ?_
              refine KIald (S := wI S (row1 (lcF S q R Q) (q 6) (asg (zP z) (rkL z p) (spL z p) (k + 1)).2))  (v := zP z (((spL z p).getD k 0 : Nat) : Int)) C 20 (hT.at0 8 20) (hT.ln0 8 20) ⟨by omega, by omega⟩ (by omega) ((row1_ne _ _ _ (hT.ne 8 6)).trans ((lcF_8 R Q _).trans (hQq k (by rw [rk_sp_len]; omega)))) dX3_rearrange_76 ?_
              have hpk := hW.plI (x := (((spL z p).getD k 0 : Nat) : Int)) (by have := (spL_mem z p k (by rw [rk_sp_len]; omega)).1; omega)
              refine KIcmp_eq (tgt := 83) C dX3_rearrange_77 (by decide) ⟨by omega, by omega⟩ ⟨by omega, by omega⟩ (fun c77 => ?_) (fun c77 => ?_)
              · have ea := asg_t c77
                refine KLvE (lv2 := [(0, .ref (q 1)), (1, .int (iI ((rkL z p).length : Int))), (2, .int (iI ((asg (zP z) (rkL z p) (spL z p) (k + 1)).1))), (3, .int (iI (k : Int)))]) (congrArg (fun zz : Int => ([(0, .ref (q 1)), (1, .int (iI ((rkL z p).length : Int))), (2, .int (iI zz)), (3, .int (iI (k : Int)))] : List (Nat × Value))) (show ((asg (zP z) (rkL z p) (spL z p) k).1 : Int) = (asg (zP z) (rkL z p) (spL z p) (k + 1)).1 from (by omega))) ?_
                refine KIinc (v := ((k + 1 : Nat) : Int)) (lv' := [(3, .int (iI ((k + 1 : Nat) : Int))), (0, .ref (q 1)), (1, .int (iI ((rkL z p).length : Int))), (2, .int (iI ((asg (zP z) (rkL z p) (spL z p) (k + 1)).1)))]) C dX3_rearrange_83 3 rfl (by omega) (by decide) rfl ?_
                refine KGoto (tgt := 50) C dX3_rearrange_86 (by decide) ?_
                refine KLv (lv' := [(0, .ref (q 1)), (1, .int (iI ((rkL z p).length : Int))), (2, .int (iI ((asg (zP z) (rkL z p) (spL z p) (k + 1)).1))), (3, .int (iI ((k + 1 : Nat) : Int)))]) [1, 2, 3, 0] rfl ?_
                exact ih50 (k + 1) (by omega) (by omega)
              · have ea := asg_f c77
                refine KIinc (v := (asg (zP z) (rkL z p) (spL z p) (k + 1)).1) (lv' := [(2, .int (iI ((asg (zP z) (rkL z p) (spL z p) (k + 1)).1))), (0, .ref (q 1)), (1, .int (iI ((rkL z p).length : Int))), (3, .int (iI (k : Int)))]) C dX3_rearrange_80 2 rfl (by omega) (by decide) rfl ?_
                refine KIinc (v := ((k + 1 : Nat) : Int)) (lv' := [(3, .int (iI ((k + 1 : Nat) : Int))), (2, .int (iI ((asg (zP z) (rkL z p) (spL z p) (k + 1)).1))), (0, .ref (q 1)), (1, .int (iI ((rkL z p).length : Int)))]) C dX3_rearrange_83 3 rfl (by omega) (by decide) rfl ?_
                refine KGoto (tgt := 50) C dX3_rearrange_86 (by decide) ?_
                refine KLv (lv' := [(0, .ref (q 1)), (1, .int (iI ((rkL z p).length : Int))), (2, .int (iI ((asg (zP z) (rkL z p) (spL z p) (k + 1)).1))), (3, .int (iI ((k + 1 : Nat) : Int)))]) [2, 3, 1, 0] rfl ?_
                exact ih50 (k + 1) (by omega) (by omega)
        exact loop50 _ 0 (Nat.lt_succ_self _) (by omega)
      · refine KAload_n C dX3_rearrange_10 rfl 0 rfl ?_
        refine KGetR (S := wI S (lcF S q R Q)) C ul_X3 rfl (by decide) 3 3 rfl (by decide) rfl u_fl_RX3_9 (hT.at0 1 4) (b := q 6) (hT.ptr 1 3 6) dX3_rearrange_11 (fun _ h => h) ?_
        refine KIload_n C dX3_rearrange_14 rfl 2 rfl ?_
        refine KIald (S := wI S (lcF S q R Q))  (v := zP z (p : Int)) C 20 (hT.at0 6 20) (hT.ln0 6 20) ⟨by omega, by omega⟩ (by omega) ((lcF_at hT R Q 6 _).trans (congrFun e6 _)) dX3_rearrange_15 ?_
        have rb3 := hR.b (q 6) (p : Int) (v := zP z (p : Int)) ((lcF_at hT R Q 6 _).trans (congrFun e6 _))
        refine KIconst C dX3_rearrange_16 ?_
        refine KIcmp_eq (tgt := 40) C dX3_rearrange_17 (by decide) ⟨by omega, by omega⟩ ⟨by omega, by omega⟩ (fun c17 => ?_) (fun c17 => ?_)
        · have hzp : zP z (p : Int) = -1 := c17
          refine KLvE (lv2 := [(0, .ref (q 1)), (1, .int (iI ((rkL z (p + 1)).length : Int))), (2, .int (iI (p : Int)))]) (congrArg (fun zz : Int => ([(0, .ref (q 1)), (1, .int (iI zz)), (2, .int (iI (p : Int)))] : List (Nat × Value))) (show (((rkL z p).length : Int) : Int) = ((rkL z (p + 1)).length : Int) from (by rw [rkL_s hzp]))) ?_
          refine KIinc (v := ((p + 1 : Nat) : Int)) (lv' := [(2, .int (iI ((p + 1 : Nat) : Int))), (0, .ref (q 1)), (1, .int (iI ((rkL z (p + 1)).length : Int)))]) C dX3_rearrange_40 2 rfl (by omega) (by decide) rfl ?_
          refine KGoto (tgt := 4) C dX3_rearrange_43 (by decide) ?_
          refine KLv (lv' := [(0, .ref (q 1)), (1, .int (iI ((rkL z (p + 1)).length : Int))), (2, .int (iI ((p + 1 : Nat) : Int)))]) [1, 2, 0] rfl ?_
          exact ih4 (p + 1) _ _ (by omega) (by omega) (by first | exact hR1 | (rw [rkL_s hzp]; exact hRr)) (by first | exact hQ1 | (rw [spL_s hzp]; exact hQq))
        · have hzp : ¬ zP z (p : Int) = -1 := c17
          have hpl := hW.plI (x := (p : Int)) (by omega)
          refine KAload_n C dX3_rearrange_20 rfl 0 rfl ?_
          refine KAload_n C dX3_rearrange_21 rfl 0 rfl ?_
          refine KGetR (S := wI S (lcF S q R Q)) C ul_X3 rfl (by decide) 3 3 rfl (by decide) rfl u_fl_RX3_9 (hT.at0 1 4) (b := q 6) (hT.ptr 1 3 6) dX3_rearrange_22 (fun _ h => h) ?_
          refine KIload_n C dX3_rearrange_25 rfl 2 rfl ?_
          refine KIald (S := wI S (lcF S q R Q))  (v := zP z (p : Int)) C 20 (hT.at0 6 20) (hT.ln0 6 20) ⟨by omega, by omega⟩ (by omega) ((lcF_at hT R Q 6 _).trans (congrFun e6 _)) dX3_rearrange_26 ?_
          have rb4 := hR.b (q 6) (p : Int) (v := zP z (p : Int)) ((lcF_at hT R Q 6 _).trans (congrFun e6 _))
          refine KIload_n C dX3_rearrange_27 rfl 1 rfl ?_
          refine KCallV (As := [.int (iI (zP z (p : Int))), .int (iI ((rkL z p).length : Int))]) (b := q 1) (st := []) C (ct_X3_insertPlace l g (wI S (lcF S q R Q)) q (zP z (p : Int)) ((rkL z p).length) hT (by unfold Cf; rw [show sI (wI S (lcF S q R Q)) (q 1) 0 = sI S (q 1) 0 from lcF_at hT R Q 1 0, show sI (wI S (lcF S q R Q)) (q 1) 1 = sI S (q 1) 1 from lcF_at hT R Q 1 1, show sI (wI S (lcF S q R Q)) (q 1) 2 = sI S (q 1) 2 from lcF_at hT R Q 1 2]; exact hCf) (by rw [show sI (wI S (lcF S q R Q)) (q 1) 1 = sI S (q 1) 1 from lcF_at hT R Q 1 1]; unfold isPl; omega) (by omega) (fun j hj => by rw [show sI (wI S (lcF S q R Q)) (q 1) 1 = sI S (q 1) 1 from lcF_at hT R Q 1 1, show sI (wI S (lcF S q R Q)) (q 8) (j : Int) = Q (j : Int) from lcF_8 R Q _, e11]; exact lay_pl hW (by omega) hQq j hj)) u_ml_RX3_53 u_im_yX3_insertPlace u_se_yX3_insertPlace u_in_RX3 u_co_yX3_insertPlace hd_yX3_insertPlace (hT.at0 1 4) (by decide) rfl rfl ⟨Nat.le_of_ble_eq_true rfl, Nat.le_of_ble_eq_true rfl⟩ ⟨Nat.le_of_ble_eq_true rfl, Nat.le_of_ble_eq_true rfl⟩ (Nat.le_of_ble_eq_true rfl) dX3_rearrange_28 rfl (fun v28 u28 hp28 => ?_)
          obtain ⟨rfl, rfl⟩ := hp28
          refine KSt (st2 := []) rfl ?_
          refine KRg (fun hR => ?_)
          obtain ⟨Q1, hE2, hQ1⟩ := lac_sp (k := (rkL z p).length) (R := R) hT (rk_sp_len z p).symm hQq hzp e11 e12
          refine KSto (S2 := wI S (lcF S q R Q1)) hE2 ?_
          refine KAload_n C dX3_rearrange_31 rfl 0 rfl ?_
          refine KIload_n C dX3_rearrange_32 rfl 2 rfl ?_
          refine KIload_n C dX3_rearrange_33 rfl 1 rfl ?_
          refine KRg (fun hR => ?_)
          refine KCallV (As := [.int (iI (p : Int)), .int (iI ((rkL z p).length : Int))]) (b := q 1) (st := []) C (ct_X3_insertProduct l g (wI S (lcF S q R Q1)) q (p : Int) ((rkL z p).length) hT (by omega) (by omega) (fun j hj => by rw [show sI (wI S (lcF S q R Q1)) (q 9) (j : Int) = R (j : Int) from lcF_9 hT R Q1 _, hRr j hj]; have := rkL_mem z p j hj; omega)) u_ml_RX3_57 u_im_yX3_insertProduct u_se_yX3_insertProduct u_in_RX3 u_co_yX3_insertProduct hd_yX3_insertProduct (hT.at0 1 4) (by decide) rfl rfl ⟨Nat.le_of_ble_eq_true rfl, Nat.le_of_ble_eq_true rfl⟩ ⟨Nat.le_of_ble_eq_true rfl, Nat.le_of_ble_eq_true rfl⟩ (Nat.le_of_ble_eq_true rfl) dX3_rearrange_34 rfl (fun v34 u34 hp34 => ?_)
          obtain ⟨rfl, rfl⟩ := hp34
          refine KSt (st2 := []) rfl ?_
          refine KRg (fun hR => ?_)
          obtain ⟨R1, hE, hR1⟩ := lac_rk (k := (rkL z p).length) (Q := Q1) hT rfl (by omega) hRr hzp e7
          have hl1 : (rkL z (p + 1)).length = (rkL z p).length + 1 := by rw [rkL_p hzp, insL_len]
          refine KSto (S2 := wI S (lcF S q R1 Q1)) hE ?_
          refine KIinc (v := ((rkL z (p + 1)).length : Int)) (lv' := [(1, .int (iI ((rkL z (p + 1)).length : Int))), (0, .ref (q 1)), (2, .int (iI (p : Int)))]) C dX3_rearrange_37 1 rfl (by omega) (by decide) rfl ?_
          refine KIinc (v := ((p + 1 : Nat) : Int)) (lv' := [(2, .int (iI ((p + 1 : Nat) : Int))), (1, .int (iI ((rkL z (p + 1)).length : Int))), (0, .ref (q 1))]) C dX3_rearrange_40 2 rfl (by omega) (by decide) rfl ?_
          refine KGoto (tgt := 4) C dX3_rearrange_43 (by decide) ?_
          refine KLv (lv' := [(0, .ref (q 1)), (1, .int (iI ((rkL z (p + 1)).length : Int))), (2, .int (iI ((p + 1 : Nat) : Int)))]) [2, 1, 0] rfl ?_
          exact ih4 (p + 1) _ _ (by omega) (by omega) (by first | exact hR1 | (rw [rkL_s hzp]; exact hRr)) (by first | exact hQ1 | (rw [spL_s hzp]; exact hQq))
  exact loop4 _ 0 (sI S (q 9)) (sI S (q 8)) (Nat.lt_succ_self _) (by omega) (fun j h => absurd h (Nat.not_lt_zero _)) (fun j h => absurd h (Nat.not_lt_zero _))
