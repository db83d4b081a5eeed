def P_X5_isIn (S : Sto) (m : Nat) (k : Nat) : Option Value → Sto → Prop := fun v u => ((m.testBit k = true) ∧ v = some (.int (iI 1)) ∨ ¬(m.testBit k = true) ∧ v = some (.int (iI 0))) ∧ S = u
set_option maxRecDepth 100000 in
set_option maxHeartbeats 4000000 in
theorem ct_X5_isIn (l : Launch) (g : GG) (S : Sto) (m : Nat) (k : Nat) (hm : m < 2147483648) (hk : k < 31) : MetS l g yX5_isIn cX5_isIn 2 (some FieldType.boolean) 1 0 0 [.int (iI (m : Int)), .int (iI (k : Int))] S (P_X5_isIn S m k) := by
  refine MetS.of (own := RX5) (lv := [(0, .int (iI (m : Int))), (1, .int (iI (k : Int)))]) (by decide) rfl (Nat.le_of_ble_eq_true rfl) rfl ?_
  intro pX eX sX mX argsX belowX methX cX C hin
  refine KRg (fun hR => ?_)
  refine KIload_n C dX5_isIn_0 rfl 0 rfl ?_
  refine KIload_n C dX5_isIn_1 rfl 1 rfl ?_
  refine KIshr (v := iI ((m / 2 ^ k : Nat) : Int)) C dX5_isIn_2 (ib_shr hm (by omega)) ?_
  refine KIconst C dX5_isIn_3 ?_
  refine KIand (v := iI ((m / 2 ^ k % 2 : Nat) : Int)) C dX5_isIn_4 (ib_bit hm (by omega)) ?_
  refine KIf_eq (tgt := 12) C dX5_isIn_5 (by decide) ⟨by omega, by omega⟩ (fun c5 => ?_) (fun c5 => ?_)
  · refine KIconst C dX5_isIn_12 ?_
    refine KIret C rfl rfl (by
      first | exact ⟨Or.inl ⟨tb_1 (by omega), rfl⟩, rfl⟩ | exact ⟨Or.inr ⟨by rw [tb_0 (by omega)]; exact Bool.false_ne_true, rfl⟩, rfl⟩) (by decide) (by decide) dX5_isIn_13
  · refine KIconst C dX5_isIn_8 ?_
    refine KGoto (tgt := 13) C dX5_isIn_9 (by decide) ?_
    refine KIret C rfl rfl (by
      first | exact ⟨Or.inl ⟨tb_1 (by omega), rfl⟩, rfl⟩ | exact ⟨Or.inr ⟨by rw [tb_0 (by omega)]; exact Bool.false_ne_true, rfl⟩, rfl⟩) (by decide) (by decide) dX5_isIn_13
def P_X2_insertPlace (S : Sto) (q : Nat → Nat) (n : Nat) (x : Int) : Option Value → Sto → Prop := fun v u => v = none ∧ u = wI S (up2 (row1 (sI S) (q 10) (insAt (sI S (q 10)) (insPosN (fun j => decide (x < sI S (q 10) (j : Int))) n) n x)) (q 2) 2 ((n : Int) + 1))
set_option maxRecDepth 100000 in
set_option maxHeartbeats 4000000 in
theorem ct_X2_insertPlace (l : Launch) (g : GG) (S : Sto) (q : Nat → Nat) (n : Nat) (x : Int) (hT : Top S q) (hn : sI S (q 2) 2 = (n : Int)) (hn9 : n < 9) (hx : inR x) : MetS l g yX2_insertPlace cX2_insertPlace 3 (none) 1 0 0 [.ref (q 2), .int (iI x)] S (P_X2_insertPlace S q n x) := by
  refine MetS.of (own := RX2) (lv := [(0, .ref (q 2)), (1, .int (iI x))]) (by decide) rfl (Nat.le_of_ble_eq_true rfl) rfl ?_
  intro pX eX sX mX argsX belowX methX cX C hin
  refine KRg (fun hR => ?_)
  obtain ⟨hx1, hx2⟩ := hx
  refine KAload_n C dX2_insertPlace_0 rfl 0 rfl ?_
  refine KGetI C ul_X2 rfl (by decide) 2 2 rfl (by decide) rfl u_fl_RX2_42 (hT.at0 2 3) (v := (n : Int)) hn dX2_insertPlace_1 (fun _ h => h) ?_
  have rb1 := hR.b (q 2) 2 (v := (n : Int)) hn
  refine KIstore_n (lv' := [(2, .int (iI (n : Int))), (0, .ref (q 2)), (1, .int (iI x))]) C dX2_insertPlace_4 rfl (by decide) rfl ?_
  refine KSto (S2 := wI S (row1 (sI S) (q 10) (shf (sI S (q 10)) n n))) (by rw [shf_self, row1_self]) ?_
  refine KLv (lv' := [(0, .ref (q 2)), (1, .int (iI x)), (2, .int (iI (n : Int)))]) [1, 2, 0] rfl ?_
  have loop5 : ∀ (nX : Nat) (a : Nat), a < nX → (a ≤ n) → (insPosN (fun j => decide (x < sI S (q 10) (j : Int))) n = insPosN (fun j => decide (x < sI S (q 10) (j : Int))) a) → Wk pX l eX (rmK 1 0 0) sX mX argsX belowX methX cX (MQ belowX (QcG g (P_X2_insertPlace S q n x)) argsX sX 0 0 (ge (gB g))) g 3 0 0 5 [(0, .ref (q 2)), (1, .int (iI x)), (2, .int (iI (a : Int)))] [] (wI S (row1 (sI S) (q 10) (shf (sI S (q 10)) a n))) := by
    intro nX
    induction nX with
    | zero => intro a hm; exact absurd hm (Nat.not_lt_zero _)
    | succ nX ih5 =>
      intro a hm5 ha hpos
      refine KRg (fun hR => ?_)
      refine KIload_n C dX2_insertPlace_5 rfl 2 rfl ?_
      refine KIf_le (tgt := 41) C dX2_insertPlace_6 (by decide) ⟨by omega, by omega⟩ (fun c6 => ?_) (fun c6 => ?_)
      · have e9 : insPosN (fun j => decide (x < sI S (q 10) (j : Int))) n = a := hpos.trans (insPosN_f' (Or.inl (by omega)))
        refine KAload_n C dX2_insertPlace_41 rfl 0 rfl ?_
        refine KGetR (S := wI S (row1 (sI S) (q 10) (shf (sI S (q 10)) a n))) C ul_X2 rfl (by decide) 1 1 rfl (by decide) rfl u_fl_RX2_9 (hT.at0 2 3) (b := q 10) (hT.ptr 2 1 10) dX2_insertPlace_42 (fun _ h => h) ?_
        refine KIload_n C dX2_insertPlace_45 rfl 2 rfl ?_
        refine KIload_n C dX2_insertPlace_46 rfl 1 rfl ?_
        refine KIast (S := wI S (row1 (sI S) (q 10) (shf (sI S (q 10)) a n))) C 9 (hT.at0 10 20) (hT.ln0 10 9) ⟨by omega, by omega⟩ (by omega) ⟨by omega, by omega⟩ dX2_insertPlace_47 ?_
        refine KSto (S2 := wI S (row1 (sI S) (q 10) (insAt (sI S (q 10)) (insPosN (fun j => decide (x < sI S (q 10) (j : Int))) n) n x))) (by rw [e9]; exact congrArg (wI S) (up2_row1 _ _ _ _ _)) ?_
        refine KAload_n C dX2_insertPlace_48 rfl 0 rfl ?_
        refine KDup C dX2_insertPlace_49 rfl ?_
        refine KGetI (S := wI S (row1 (sI S) (q 10) (insAt (sI S (q 10)) (insPosN (fun j => decide (x < sI S (q 10) (j : Int))) n) n x))) C ul_X2 rfl (by decide) 2 2 rfl (by decide) rfl u_fl_RX2_42 (hT.at0 2 3) (v := (n : Int)) ((row1_ne _ _ _ (hT.ne 2 10)).trans hn) dX2_insertPlace_50 (fun _ h => h) ?_
        have rb2 := hR.b (q 2) 2 (v := (n : Int)) ((row1_ne _ _ _ (hT.ne 2 10)).trans hn)
        refine KIconst C dX2_insertPlace_53 ?_
        refine KIadd C dX2_insertPlace_54 ?_
        refine KPutI (S := wI S (row1 (sI S) (q 10) (insAt (sI S (q 10)) (insPosN (fun j => decide (x < sI S (q 10) (j : Int))) n) n x))) (ty := .int) (v := (n : Int) + 1) C ul_X2 rfl (by decide) 2 2 rfl (by decide) rfl u_fl_RX2_42 tyX2 tyX2_ok nmX2 (hT.at0 2 3) ⟨by omega, by omega⟩ (by decide +kernel) rfl rfl rfl dX2_insertPlace_55 (fun _ h => h) ?_
        refine KVret C rfl (by
          exact ⟨rfl, rfl⟩) (by decide) (by decide) dX2_insertPlace_58
      · refine KAload_n C dX2_insertPlace_9 rfl 0 rfl ?_
        refine KGetR (S := wI S (row1 (sI S) (q 10) (shf (sI S (q 10)) a n))) C ul_X2 rfl (by decide) 1 1 rfl (by decide) rfl u_fl_RX2_9 (hT.at0 2 3) (b := q 10) (hT.ptr 2 1 10) dX2_insertPlace_10 (fun _ h => h) ?_
        refine KIload_n C dX2_insertPlace_13 rfl 2 rfl ?_
        refine KIconst C dX2_insertPlace_14 ?_
        refine KIsub C dX2_insertPlace_15 ?_
        refine KTop (congrArg iI (show (a : Int) - 1 = ((a - 1 : Nat) : Int) from (by omega))) ?_
        refine KIald (S := wI S (row1 (sI S) (q 10) (shf (sI S (q 10)) a n)))  (v := sI S (q 10) ((a - 1 : Nat) : Int)) C 9 (hT.at0 10 20) (hT.ln0 10 9) ⟨by omega, by omega⟩ (by omega) ((row1_same _ _ _ _).trans (shf_lo _ (by omega))) dX2_insertPlace_16 ?_
        have rb3 := hR.b (q 10) ((a - 1 : Nat) : Int) (v := sI S (q 10) ((a - 1 : Nat) : Int)) ((row1_same _ _ _ _).trans (shf_lo _ (by omega)))
        refine KIload_n C dX2_insertPlace_17 rfl 1 rfl ?_
        refine KIcmp_le (tgt := 41) C dX2_insertPlace_18 (by decide) ⟨by omega, by omega⟩ ⟨by omega, by omega⟩ (fun c18 => ?_) (fun c18 => ?_)
        · have e9 : insPosN (fun j => decide (x < sI S (q 10) (j : Int))) n = a := hpos.trans (insPosN_f' (Or.inr ⟨by omega, decide_eq_false (by omega)⟩))
          refine KAload_n C dX2_insertPlace_41 rfl 0 rfl ?_
          refine KGetR (S := wI S (row1 (sI S) (q 10) (shf (sI S (q 10)) a n))) C ul_X2 rfl (by decide) 1 1 rfl (by decide) rfl u_fl_RX2_9 (hT.at0 2 3) (b := q 10) (hT.ptr 2 1 10) dX2_insertPlace_42 (fun _ h => h) ?_
          refine KIload_n C dX2_insertPlace_45 rfl 2 rfl ?_
          refine KIload_n C dX2_insertPlace_46 rfl 1 rfl ?_
          refine KIast (S := wI S (row1 (sI S) (q 10) (shf (sI S (q 10)) a n))) C 9 (hT.at0 10 20) (hT.ln0 10 9) ⟨by omega, by omega⟩ (by omega) ⟨by omega, by omega⟩ dX2_insertPlace_47 ?_
          refine KSto (S2 := wI S (row1 (sI S) (q 10) (insAt (sI S (q 10)) (insPosN (fun j => decide (x < sI S (q 10) (j : Int))) n) n x))) (by rw [e9]; exact congrArg (wI S) (up2_row1 _ _ _ _ _)) ?_
          refine KAload_n C dX2_insertPlace_48 rfl 0 rfl ?_
          refine KDup C dX2_insertPlace_49 rfl ?_
          refine KGetI (S := wI S (row1 (sI S) (q 10) (insAt (sI S (q 10)) (insPosN (fun j => decide (x < sI S (q 10) (j : Int))) n) n x))) C ul_X2 rfl (by decide) 2 2 rfl (by decide) rfl u_fl_RX2_42 (hT.at0 2 3) (v := (n : Int)) ((row1_ne _ _ _ (hT.ne 2 10)).trans hn) dX2_insertPlace_50 (fun _ h => h) ?_
          have rb4 := hR.b (q 2) 2 (v := (n : Int)) ((row1_ne _ _ _ (hT.ne 2 10)).trans hn)
          refine KIconst C dX2_insertPlace_53 ?_
          refine KIadd C dX2_insertPlace_54 ?_
          refine KPutI (S := wI S (row1 (sI S) (q 10) (insAt (sI S (q 10)) (insPosN (fun j => decide (x < sI S (q 10) (j : Int))) n) n x))) (ty := .int) (v := (n : Int) + 1) C ul_X2 rfl (by decide) 2 2 rfl (by decide) rfl u_fl_RX2_42 tyX2 tyX2_ok nmX2 (hT.at0 2 3) ⟨by omega, by omega⟩ (by decide +kernel) rfl rfl rfl dX2_insertPlace_55 (fun _ h => h) ?_
          refine KVret C rfl (by
            exact ⟨rfl, rfl⟩) (by decide) (by decide) dX2_insertPlace_58
        · refine KAload_n C dX2_insertPlace_21 rfl 0 rfl ?_
          refine KGetR (S := wI S (row1 (sI S) (q 10) (shf (sI S (q 10)) a n))) C ul_X2 rfl (by decide) 1 1 rfl (by decide) rfl u_fl_RX2_9 (hT.at0 2 3) (b := q 10) (hT.ptr 2 1 10) dX2_insertPlace_22 (fun _ h => h) ?_
          refine KIload_n C dX2_insertPlace_25 rfl 2 rfl ?_
          refine KAload_n C dX2_insertPlace_26 rfl 0 rfl ?_
          refine KGetR (S := wI S (row1 (sI S) (q 10) (shf (sI S (q 10)) a n))) C ul_X2 rfl (by decide) 1 1 rfl (by decide) rfl u_fl_RX2_9 (hT.at0 2 3) (b := q 10) (hT.ptr 2 1 10) dX2_insertPlace_27 (fun _ h => h) ?_
          refine KIload_n C dX2_insertPlace_30 rfl 2 rfl ?_
          refine KIconst C dX2_insertPlace_31 ?_
          refine KIsub C dX2_insertPlace_32 ?_
          refine KTop (congrArg iI (show (a : Int) - 1 = ((a - 1 : Nat) : Int) from (by omega))) ?_
          refine KIald (S := wI S (row1 (sI S) (q 10) (shf (sI S (q 10)) a n)))  (v := sI S (q 10) ((a - 1 : Nat) : Int)) C 9 (hT.at0 10 20) (hT.ln0 10 9) ⟨by omega, by omega⟩ (by omega) ((row1_same _ _ _ _).trans (shf_lo _ (by omega))) dX2_insertPlace_33 ?_
          have rb5 := hR.b (q 10) ((a - 1 : Nat) : Int) (v := sI S (q 10) ((a - 1 : Nat) : Int)) ((row1_same _ _ _ _).trans (shf_lo _ (by omega)))
          refine KIast (S := wI S (row1 (sI S) (q 10) (shf (sI S (q 10)) a n))) C 9 (hT.at0 10 20) (hT.ln0 10 9) ⟨by omega, by omega⟩ (by omega) ⟨by omega, by omega⟩ dX2_insertPlace_34 ?_
          refine KSto (S2 := wI S (row1 (sI S) (q 10) (shf (sI S (q 10)) (a - 1) n))) (congrArg (wI S) ((up2_row1 _ _ _ _ _).trans (congrArg _ (shf_step' _ (by omega) ha)))) ?_
          refine KIinc (v := ((a - 1 : Nat) : Int)) (lv' := [(2, .int (iI ((a - 1 : Nat) : Int))), (0, .ref (q 2)), (1, .int (iI x))]) C dX2_insertPlace_35 2 rfl (by omega) (by decide) rfl ?_
          refine KGoto (tgt := 5) C dX2_insertPlace_38 (by decide) ?_
          refine KLv (lv' := [(0, .ref (q 2)), (1, .int (iI x)), (2, .int (iI ((a - 1 : Nat) : Int)))]) [1, 2, 0] rfl ?_
          exact ih5 (a - 1) (by omega) (by omega) (hpos.trans (insPosN_t' (by omega) (decide_eq_true (by omega))))
  exact loop5 _ n (Nat.lt_succ_self _) (by omega) rfl
def P_X2_gather (S : Sto) (q : Nat → Nat) (m : Nat) : Option Value → Sto → Prop := fun v u => v = none ∧ ∃ f, u = wI S f ∧ GatB S q m (sll S q m).length f
set_option maxRecDepth 100000 in
set_option maxHeartbeats 4000000 in
theorem ct_X2_gather (l : Launch) (g : GG) (S : Sto) (q : Nat → Nat) (m : Nat) (hT : Top S q) (hCf : Cf S q) (hm : okM (sI S (q 1) 1) (sI S (q 6)) m) (hz : sI S (q 29) 9 = 0) : MetS l g yX2_gather cX2_gather 5 (none) 3 0 0 [.ref (q 2), .int (iI (m : Int))] S (P_X2_gather S q m) := by
  refine MetS.of (own := RX2) (lv := [(0, .ref (q 2)), (1, .int (iI (m : Int)))]) (by decide) rfl (Nat.le_of_ble_eq_true rfl) rfl ?_
  intro pX eX sX mX argsX belowX methX cX C hin
  refine KRg (fun hR => ?_)
  obtain ⟨hA1, hA2, hN1, hN2, hG1, hG2⟩ := id hCf
  obtain ⟨hm1, hm2, hm3⟩ := id hm
  have hlen : (sll S q m).length ≤ 9 := by rw [sl_len]; exact hm2
  have hsl : (sl (sI S (q 6)) m 20).length = (sll S q m).length := rfl
  refine KAload_n C dX2_gather_0 rfl 0 rfl ?_
  refine KIconst C dX2_gather_1 ?_
  refine KPutI (ty := .int) (v := 0) C ul_X2 rfl (by decide) 2 2 rfl (by decide) rfl u_fl_RX2_42 tyX2 tyX2_ok nmX2 (hT.at0 2 3) ⟨by omega, by omega⟩ (by decide +kernel) rfl rfl rfl dX2_gather_2 (fun _ h => h) ?_
  refine KIconst C dX2_gather_5 ?_
  refine KIstore_n (lv' := [(2, .int (iI 0)), (0, .ref (q 2)), (1, .int (iI (m : Int)))]) C dX2_gather_6 rfl (by decide) rfl ?_
  refine KLv (lv' := [(0, .ref (q 2)), (1, .int (iI (m : Int))), (2, .int (iI 0))]) [1, 2, 0] rfl ?_
  have loop7 : ∀ (nX : Nat) (p : Nat) (f : Nat → Int → Int), 20 - p < nX → (p ≤ 20) → (GatA S q m p f) → Wk pX l eX (rmK 3 0 0) sX mX argsX belowX methX cX (MQ belowX (QcG g (P_X2_gather S q m)) argsX sX 0 0 (ge (gB g))) g 5 0 0 7 [(0, .ref (q 2)), (1, .int (iI (m : Int))), (2, .int (iI (p : Int)))] [] (wI S f) := by
    intro nX
    induction nX with
    | zero => intro p f hm; exact absurd hm (Nat.not_lt_zero _)
    | succ nX ih7 =>
      intro p f hm7 hp hG
      refine KRg (fun hR => ?_)
      have hc2 := hG.2.1
      refine KIload_n C dX2_gather_7 rfl 2 rfl ?_
      refine KBipush C dX2_gather_8 (by decide) ?_
      refine KIcmp_ge (tgt := 49) C dX2_gather_10 (by decide) ⟨by omega, by omega⟩ ⟨by omega, by omega⟩ (fun c10 => ?_) (fun c10 => ?_)
      · have hG20 := hG.fin hm2 hp (Or.inr (by omega))
        refine KIconst C dX2_gather_49 ?_
        refine KIstore_n (lv' := [(2, .int (iI 0)), (0, .ref (q 2)), (1, .int (iI (m : Int)))]) C dX2_gather_50 rfl (by decide) rfl ?_
        have hB := GatB.init hT hz hG20
        refine KLv (lv' := [(0, .ref (q 2)), (1, .int (iI (m : Int))), (2, .int (iI 0))]) [1, 2, 0] rfl ?_
        have loop51 : ∀ (nX : Nat) (i : Nat) (f : Nat → Int → Int), (sll S q m).length - i < nX → (i ≤ (sll S q m).length) → (GatB S q m i f) → Wk pX l eX (rmK 3 0 0) sX mX argsX belowX methX cX (MQ belowX (QcG g (P_X2_gather S q m)) argsX sX 0 0 (ge (gB g))) g 5 0 0 51 [(0, .ref (q 2)), (1, .int (iI (m : Int))), (2, .int (iI (i : Int)))] [] (wI S f) := by
          intro nX
          induction nX with
          | zero => intro i f hm; exact absurd hm (Nat.not_lt_zero _)
          | succ nX ih51 =>
            intro i f hm51 hi hB
            refine KRg (fun hR => ?_)
            have hc2 := hB.2.2.1
            have e11 : f (q 1) 1 = sI S (q 1) 1 := hB.1 _ _ (fun h => absurd h.1 (hT.ne 1 2)) (hT.ne 1 10) (hT.nway 1)
            have e12 : f (q 1) 2 = sI S (q 1) 2 := hB.1 _ _ (fun h => absurd h.1 (hT.ne 1 2)) (hT.ne 1 10) (hT.nway 1)
            have hCf2 : Cf (wI S f) q := hCf.of (fun k => hB.1 _ _ (fun h => absurd h.1 (hT.ne 1 2)) (hT.ne 1 10) (hT.nway 1))
            refine KIload_n C dX2_gather_51 rfl 2 rfl ?_
            refine KAload_n C dX2_gather_52 rfl 0 rfl ?_
            refine KGetI (S := wI S f) C ul_X2 rfl (by decide) 2 2 rfl (by decide) rfl u_fl_RX2_42 (hT.at0 2 3) (v := ((sll S q m).length : Int)) hB.2.2.1 dX2_gather_53 (fun _ h => h) ?_
            have rb1 := hR.b (q 2) 2 (v := ((sll S q m).length : Int)) hB.2.2.1
            refine KIcmp_ge (tgt := 147) C dX2_gather_56 (by decide) ⟨by omega, by omega⟩ ⟨by omega, by omega⟩ (fun c56 => ?_) (fun c56 => ?_)
            · refine KVret C rfl (by
                exact ⟨rfl, f, rfl, (show i = (sll S q m).length by omega) ▸ hB⟩) (by decide) (by decide) dX2_gather_147
            · refine KAload_n C dX2_gather_59 rfl 0 rfl ?_
              refine KGetR (S := wI S f) C ul_X2 rfl (by decide) 0 0 rfl (by decide) rfl u_fl_RX2_23 (hT.at0 2 3) (b := q 1) (hT.ptr 2 0 1) dX2_gather_60 (fun _ h => h) ?_
              refine KIconst C dX2_gather_63 ?_
              refine KAload_n C dX2_gather_64 rfl 0 rfl ?_
              refine KGetR (S := wI S f) C ul_X2 rfl (by decide) 1 1 rfl (by decide) rfl u_fl_RX2_9 (hT.at0 2 3) (b := q 10) (hT.ptr 2 1 10) dX2_gather_65 (fun _ h => h) ?_
              refine KIload_n C dX2_gather_68 rfl 2 rfl ?_
              refine KIald (S := wI S f)  (v := sI S (q 6) (((sll S q m).getD i 0 : Nat) : Int)) C 9 (hT.at0 10 20) (hT.ln0 10 9) ⟨by omega, by omega⟩ (by omega) (hB.2.2.2.1 i (by omega)) dX2_gather_69 ?_
              have rb2 := hR.b (q 10) (i : Int) (v := sI S (q 6) (((sll S q m).getD i 0 : Nat) : Int)) (hB.2.2.2.1 i (by omega))
              have hpt := okM_pt ⟨hN1, hN2⟩ hm (j := i) (Or.inl (by omega))
              rw [show pt (sI S (q 6)) (sll S q m) i = sI S (q 6) (((sll S q m).getD i 0 : Nat) : Int) from if_neg (by omega)] at hpt
              obtain ⟨⟨hpt1, hpt2, hpt3⟩, hpt4, hpt5⟩ := hpt
              refine KCallV (As := [.int (iI 0), .int (iI (sI S (q 6) (((sll S q m).getD i 0 : Nat) : Int)))]) (b := q 1) (st := []) C (ct_X3_between l g (wI S f) q 0 (sI S (q 6) (((sll S q m).getD i 0 : Nat) : Int)) hT hCf2 (by omega) (by omega)) u_ml_RX2_73 u_im_yX3_between u_se_yX3_between u_in_RX3 u_co_yX3_between hd_yX3_between (hT.at0 1 4) (by decide) rfl rfl ⟨Nat.le_of_ble_eq_true rfl, Nat.le_of_ble_eq_true rfl⟩ ⟨Nat.le_of_ble_eq_true rfl, Nat.le_of_ble_eq_true rfl⟩ (Nat.le_of_ble_eq_true rfl) dX2_gather_70 rfl (fun v70 u70 hp70 => ?_)
              obtain ⟨rfl, rfl⟩ := hp70
              refine KSt (st2 := [.int (iI (dst (sI (wI S f) (q 1) 1) (sI (wI S f) (q 1) 2) 0 (sI S (q 6) (((sll S q m).getD i 0 : Nat) : Int))))]) rfl ?_
              refine KRg (fun hR => ?_)
              refine KTop (congrArg iI (show dst (sI (wI S f) (q 1) 1) (sI (wI S f) (q 1) 2) 0 (sI S (q 6) (((sll S q m).getD i 0 : Nat) : Int)) = dst (sI S (q 1) 1) (sI S (q 1) 2) 0 (sI S (q 6) (((sll S q m).getD i 0 : Nat) : Int)) from (by rw [show sI (wI S f) (q 1) 1 = sI S (q 1) 1 from e11, show sI (wI S f) (q 1) 2 = sI S (q 1) 2 from e12]))) ?_
              have hdb := dst_b (N := sI S (q 1) 1) (G := sI S (q 1) 2) (x := 0) ⟨hN1, hN2⟩ ⟨hG1, hG2⟩ (by unfold isPl; omega) ⟨hpt1, hpt2, hpt3⟩ (by omega) hpt4
              refine KIstore_n (lv' := [(3, .int (iI (dst (sI S (q 1) 1) (sI S (q 1) 2) 0 (sI S (q 6) (((sll S q m).getD i 0 : Nat) : Int))))), (0, .ref (q 2)), (1, .int (iI (m : Int))), (2, .int (iI (i : Int)))]) C dX2_gather_73 rfl (by decide) rfl ?_
              refine KAload_n C dX2_gather_74 rfl 1 rfl ?_
              refine KGetR (S := wI S f) C ul_X2 rfl (by decide) 3 3 rfl (by decide) rfl u_fl_RX2_17 (hT.at0 2 3) (b := q 11) (hT.ptr 2 3 11) dX2_gather_75 (fun _ h => h) ?_
              refine KIload_n C dX2_gather_78 rfl 3 rfl ?_
              refine KGaldR (S := wI S f) (b := q (20 + i)) C 10 (hT.at0 11 22) (hT.ln0 11 10) ⟨by omega, by omega⟩ (by omega) (hT.way (by omega)) dX2_gather_79 ?_
              refine KBipush C dX2_gather_80 (by decide) ?_
              refine KIload_n C dX2_gather_82 rfl 0 rfl ?_
              refine KIast (S := wI S f) C 10 (hT.wat (by omega)) (hT.wln (by omega)) ⟨by omega, by omega⟩ (by omega) ⟨by omega, by omega⟩ dX2_gather_83 ?_
              refine KAload_n C dX2_gather_84 rfl 1 rfl ?_
              refine KGetR (S := uI (wI S f) (q (20 + i)) 9 (dst (sI S (q 1) 1) (sI S (q 1) 2) 0 (sI S (q 6) (((sll S q m).getD i 0 : Nat) : Int)))) C ul_X2 rfl (by decide) 3 3 rfl (by decide) rfl u_fl_RX2_17 (hT.at0 2 3) (b := q 11) (hT.ptr 2 3 11) dX2_gather_85 (fun _ h => h) ?_
              refine KBipush C dX2_gather_88 (by decide) ?_
              refine KGaldR (S := uI (wI S f) (q (20 + i)) 9 (dst (sI S (q 1) 1) (sI S (q 1) 2) 0 (sI S (q 6) (((sll S q m).getD i 0 : Nat) : Int)))) (b := q 29) C 10 (hT.at0 11 22) (hT.ln0 11 10) ⟨by omega, by omega⟩ (by omega) (hT.way (i := 9) (by omega)) dX2_gather_90 ?_
              refine KIload_n C dX2_gather_91 rfl 3 rfl ?_
              refine KIload_n C dX2_gather_92 rfl 0 rfl ?_
              refine KIast (S := uI (wI S f) (q (20 + i)) 9 (dst (sI S (q 1) 1) (sI S (q 1) 2) 0 (sI S (q 6) (((sll S q m).getD i 0 : Nat) : Int)))) C 10 (hT.at0 29 20) (hT.ln0 29 10) ⟨by omega, by omega⟩ (by omega) ⟨by omega, by omega⟩ dX2_gather_93 ?_
              have hv1 : dst (sI S (q 1) 1) (sI S (q 1) 2) 0 (sI S (q 6) (((sll S q m).getD i 0 : Nat) : Int)) = dM S q m 9 i := by unfold dM dd; rw [show pt (sI S (q 6)) (sll S q m) i = sI S (q 6) (((sll S q m).getD i 0 : Nat) : Int) from if_neg (by omega)]; rfl
              have hv2 : dst (sI S (q 1) 1) (sI S (q 1) 2) 0 (sI S (q 6) (((sll S q m).getD i 0 : Nat) : Int)) = dM S q m i 9 := by rw [hv1]; exact dst_sym _ _ _ _
              have hCc := GatC.init hT hB (i := i) (by omega) _ hv2 hv1
              refine KIconst C dX2_gather_94 ?_
              refine KIstore (lv' := [(4, .int (iI 0)), (3, .int (iI (dst (sI S (q 1) 1) (sI S (q 1) 2) 0 (sI S (q 6) (((sll S q m).getD i 0 : Nat) : Int))))), (0, .ref (q 2)), (1, .int (iI (m : Int))), (2, .int (iI (i : Int)))]) C dX2_gather_95 (by decide) rfl ?_
              refine KLv (lv' := [(0, .ref (q 2)), (1, .int (iI (m : Int))), (2, .int (iI (i : Int))), (3, .int (iI (dst (sI S (q 1) 1) (sI S (q 1) 2) 0 (sI S (q 6) (((sll S q m).getD i 0 : Nat) : Int))))), (4, .int (iI 0))]) [2, 3, 4, 1, 0] rfl ?_
              have loop97 : ∀ (nX : Nat) (j : Nat) (f : Nat → Int → Int), (sll S q m).length - j < nX → (j ≤ (sll S q m).length) → (GatC S q m i j f) → Wk pX l eX (rmK 3 0 0) sX mX argsX belowX methX cX (MQ belowX (QcG g (P_X2_gather S q m)) argsX sX 0 0 (ge (gB g))) g 5 0 0 97 [(0, .ref (q 2)), (1, .int (iI (m : Int))), (2, .int (iI (i : Int))), (3, .int (iI (dst (sI S (q 1) 1) (sI S (q 1) 2) 0 (sI S (q 6) (((sll S q m).getD i 0 : Nat) : Int))))), (4, .int (iI (j : Int)))] [] (wI S f) := by
                intro nX
                induction nX with
                | zero => intro j f hm; exact absurd hm (Nat.not_lt_zero _)
                | succ nX ih97 =>
                  intro j f hm97 hj hCc
                  refine KRg (fun hR => ?_)
                  have hc2 := hCc.1.2.2.1
                  have e11 : f (q 1) 1 = sI S (q 1) 1 := hCc.1.1 _ _ (fun h => absurd h.1 (hT.ne 1 2)) (hT.ne 1 10) (hT.nway 1)
                  have e12 : f (q 1) 2 = sI S (q 1) 2 := hCc.1.1 _ _ (fun h => absurd h.1 (hT.ne 1 2)) (hT.ne 1 10) (hT.nway 1)
                  have hCf2 : Cf (wI S f) q := hCf.of (fun k => hCc.1.1 _ _ (fun h => absurd h.1 (hT.ne 1 2)) (hT.ne 1 10) (hT.nway 1))
                  refine KIload C dX2_gather_97 4 rfl ?_
                  refine KAload_n C dX2_gather_99 rfl 0 rfl ?_
                  refine KGetI (S := wI S f) C ul_X2 rfl (by decide) 2 2 rfl (by decide) rfl u_fl_RX2_42 (hT.at0 2 3) (v := ((sll S q m).length : Int)) hCc.1.2.2.1 dX2_gather_100 (fun _ h => h) ?_
                  have rb3 := hR.b (q 2) 2 (v := ((sll S q m).length : Int)) hCc.1.2.2.1
                  refine KIcmp_ge (tgt := 141) C dX2_gather_103 (by decide) ⟨by omega, by omega⟩ ⟨by omega, by omega⟩ (fun c103 => ?_) (fun c103 => ?_)
                  · refine KIinc (v := ((i + 1 : Nat) : Int)) (lv' := [(2, .int (iI ((i + 1 : Nat) : Int))), (0, .ref (q 2)), (1, .int (iI (m : Int))), (3, .int (iI (dst (sI S (q 1) 1) (sI S (q 1) 2) 0 (sI S (q 6) (((sll S q m).getD i 0 : Nat) : Int))))), (4, .int (iI (j : Int)))]) C dX2_gather_141 2 rfl (by omega) (by decide) rfl ?_
                    refine KGoto (tgt := 51) C dX2_gather_144 (by decide) ?_
                    refine KLv (lv' := [(0, .ref (q 2)), (1, .int (iI (m : Int))), (2, .int (iI ((i + 1 : Nat) : Int)))]) [1, 2, 0] rfl ?_
                    exact ih51 (i + 1) f (by omega) (by omega) (hCc.done (by omega))
                  · refine KAload_n C dX2_gather_106 rfl 0 rfl ?_
                    refine KGetR (S := wI S f) C ul_X2 rfl (by decide) 3 3 rfl (by decide) rfl u_fl_RX2_17 (hT.at0 2 3) (b := q 11) (hT.ptr 2 3 11) dX2_gather_107 (fun _ h => h) ?_
                    refine KIload_n C dX2_gather_110 rfl 2 rfl ?_
                    refine KGaldR (S := wI S f) (b := q (20 + i)) C 10 (hT.at0 11 22) (hT.ln0 11 10) ⟨by omega, by omega⟩ (by omega) (hT.way (by omega)) dX2_gather_111 ?_
                    refine KIload C dX2_gather_112 4 rfl ?_
                    refine KAload_n C dX2_gather_114 rfl 0 rfl ?_
                    refine KGetR (S := wI S f) C ul_X2 rfl (by decide) 0 0 rfl (by decide) rfl u_fl_RX2_23 (hT.at0 2 3) (b := q 1) (hT.ptr 2 0 1) dX2_gather_115 (fun _ h => h) ?_
                    refine KAload_n C dX2_gather_118 rfl 0 rfl ?_
                    refine KGetR (S := wI S f) C ul_X2 rfl (by decide) 1 1 rfl (by decide) rfl u_fl_RX2_9 (hT.at0 2 3) (b := q 10) (hT.ptr 2 1 10) dX2_gather_119 (fun _ h => h) ?_
                    refine KIload_n C dX2_gather_122 rfl 2 rfl ?_
                    refine KIald (S := wI S f)  (v := sI S (q 6) (((sll S q m).getD i 0 : Nat) : Int)) C 9 (hT.at0 10 20) (hT.ln0 10 9) ⟨by omega, by omega⟩ (by omega) (hCc.1.2.2.2.1 i (by omega)) dX2_gather_123 ?_
                    have rb4 := hR.b (q 10) (i : Int) (v := sI S (q 6) (((sll S q m).getD i 0 : Nat) : Int)) (hCc.1.2.2.2.1 i (by omega))
                    refine KAload_n C dX2_gather_124 rfl 0 rfl ?_
                    refine KGetR (S := wI S f) C ul_X2 rfl (by decide) 1 1 rfl (by decide) rfl u_fl_RX2_9 (hT.at0 2 3) (b := q 10) (hT.ptr 2 1 10) dX2_gather_125 (fun _ h => h) ?_
                    refine KIload C dX2_gather_128 4 rfl ?_
                    refine KIald (S := wI S f)  (v := sI S (q 6) (((sll S q m).getD j 0 : Nat) : Int)) C 9 (hT.at0 10 20) (hT.ln0 10 9) ⟨by omega, by omega⟩ (by omega) (hCc.1.2.2.2.1 j (by omega)) dX2_gather_130 ?_
                    have rb5 := hR.b (q 10) (j : Int) (v := sI S (q 6) (((sll S q m).getD j 0 : Nat) : Int)) (hCc.1.2.2.2.1 j (by omega))
                    have hpj := okM_pt ⟨hN1, hN2⟩ hm (j := j) (Or.inl (by omega))
                    rw [show pt (sI S (q 6)) (sll S q m) j = sI S (q 6) (((sll S q m).getD j 0 : Nat) : Int) from if_neg (by omega)] at hpj
                    obtain ⟨⟨hpj1, hpj2, hpj3⟩, hpj4, hpj5⟩ := hpj
                    refine KCallV (As := [.int (iI (sI S (q 6) (((sll S q m).getD i 0 : Nat) : Int))), .int (iI (sI S (q 6) (((sll S q m).getD j 0 : Nat) : Int)))]) (b := q 1) (st := [.int (iI (j : Int)), .ref (q (20 + i))]) C (ct_X3_between l g (wI S f) q (sI S (q 6) (((sll S q m).getD i 0 : Nat) : Int)) (sI S (q 6) (((sll S q m).getD j 0 : Nat) : Int)) hT hCf2 (by omega) (by omega)) u_ml_RX2_73 u_im_yX3_between u_se_yX3_between u_in_RX3 u_co_yX3_between hd_yX3_between (hT.at0 1 4) (by decide) rfl rfl ⟨Nat.le_of_ble_eq_true rfl, Nat.le_of_ble_eq_true rfl⟩ ⟨Nat.le_of_ble_eq_true rfl, Nat.le_of_ble_eq_true rfl⟩ (Nat.le_of_ble_eq_true rfl) dX2_gather_131 rfl (fun v131 u131 hp131 => ?_)
                    obtain ⟨rfl, rfl⟩ := hp131
                    refine KSt (st2 := [.int (iI (dst (sI (wI S f) (q 1) 1) (sI (wI S f) (q 1) 2) (sI S (q 6) (((sll S q m).getD i 0 : Nat) : Int)) (sI S (q 6) (((sll S q m).getD j 0 : Nat) : Int)))), .int (iI (j : Int)), .ref (q (20 + i))]) rfl ?_
                    refine KRg (fun hR => ?_)
                    refine KTop (congrArg iI (show dst (sI (wI S f) (q 1) 1) (sI (wI S f) (q 1) 2) (sI S (q 6) (((sll S q m).getD i 0 : Nat) : Int)) (sI S (q 6) (((sll S q m).getD j 0 : Nat) : Int)) = dst (sI S (q 1) 1) (sI S (q 1) 2) (sI S (q 6) (((sll S q m).getD i 0 : Nat) : Int)) (sI S (q 6) (((sll S q m).getD j 0 : Nat) : Int)) from (by rw [show sI (wI S f) (q 1) 1 = sI S (q 1) 1 from e11, show sI (wI S f) (q 1) 2 = sI S (q 1) 2 from e12]))) ?_
                    have hdb2 := dst_b (N := sI S (q 1) 1) (G := sI S (q 1) 2) ⟨hN1, hN2⟩ ⟨hG1, hG2⟩ ⟨hpt1, hpt2, hpt3⟩ ⟨hpj1, hpj2, hpj3⟩ hpt4 hpj4
                    refine KIast (S := wI S f) C 10 (hT.wat (by omega)) (hT.wln (by omega)) ⟨by omega, by omega⟩ (by omega) ⟨by omega, by omega⟩ dX2_gather_134 ?_
                    have hv3 : dst (sI S (q 1) 1) (sI S (q 1) 2) (sI S (q 6) (((sll S q m).getD i 0 : Nat) : Int)) (sI S (q 6) (((sll S q m).getD j 0 : Nat) : Int)) = dM S q m i j := by unfold dM dd; rw [show pt (sI S (q 6)) (sll S q m) i = sI S (q 6) (((sll S q m).getD i 0 : Nat) : Int) from if_neg (by omega), show pt (sI S (q 6)) (sll S q m) j = sI S (q 6) (((sll S q m).getD j 0 : Nat) : Int) from if_neg (by omega)]
                    have hC3 := hCc.step hT (j := j) (by omega) (by omega) _ hv3
                    refine KIinc (v := ((j + 1 : Nat) : Int)) (lv' := [(4, .int (iI ((j + 1 : Nat) : Int))), (0, .ref (q 2)), (1, .int (iI (m : Int))), (2, .int (iI (i : Int))), (3, .int (iI (dst (sI S (q 1) 1) (sI S (q 1) 2) 0 (sI S (q 6) (((sll S q m).getD i 0 : Nat) : Int)))))]) C dX2_gather_135 4 rfl (by omega) (by decide) rfl ?_
                    refine KGoto (tgt := 97) C dX2_gather_138 (by decide) ?_
                    refine KLv (lv' := [(0, .ref (q 2)), (1, .int (iI (m : Int))), (2, .int (iI (i : Int))), (3, .int (iI (dst (sI S (q 1) 1) (sI S (q 1) 2) 0 (sI S (q 6) (((sll S q m).getD i 0 : Nat) : Int))))), (4, .int (iI ((j + 1 : Nat) : Int)))]) [1, 2, 3, 4, 0] rfl ?_
                    exact ih97 (j + 1) (up2 f (q (20 + i)) (j : Int) (dst (sI S (q 1) 1) (sI S (q 1) 2) (sI S (q 6) (((sll S q m).getD i 0 : Nat) : Int)) (sI S (q 6) (((sll S q m).getD j 0 : Nat) : Int)))) (by omega) (by omega) hC3
              exact loop97 _ 0 (up2 (up2 f (q (20 + i)) 9 (dst (sI S (q 1) 1) (sI S (q 1) 2) 0 (sI S (q 6) (((sll S q m).getD i 0 : Nat) : Int)))) (q 29) (i : Int) (dst (sI S (q 1) 1) (sI S (q 1) 2) 0 (sI S (q 6) (((sll S q m).getD i 0 : Nat) : Int)))) (Nat.lt_succ_self _) (by omega) hCc
        exact loop51 _ 0 f (Nat.lt_succ_self _) (by omega) hB
      · refine KAload_n C dX2_gather_13 rfl 0 rfl ?_
        refine KGetI (S := wI S f) C ul_X2 rfl (by decide) 2 2 rfl (by decide) rfl u_fl_RX2_42 (hT.at0 2 3) (v := ((sl (sI S (q 6)) m p).length : Int)) hG.2.1 dX2_gather_14 (fun _ h => h) ?_
        have rb6 := hR.b (q 2) 2 (v := ((sl (sI S (q 6)) m p).length : Int)) hG.2.1
        have hlp : (sl (sI S (q 6)) m p).length ≤ 9 := by rw [sl_len]; exact Nat.le_trans (cntb_mono m hp) hm2
        refine KBipush C dX2_gather_17 (by decide) ?_
        refine KIcmp_ge (tgt := 49) C dX2_gather_19 (by decide) ⟨by omega, by omega⟩ ⟨by omega, by omega⟩ (fun c19 => ?_) (fun c19 => ?_)
        · have hG20 := hG.fin hm2 hp (Or.inl (by omega))
          refine KIconst C dX2_gather_49 ?_
          refine KIstore_n (lv' := [(2, .int (iI 0)), (0, .ref (q 2)), (1, .int (iI (m : Int)))]) C dX2_gather_50 rfl (by decide) rfl ?_
          have hB := GatB.init hT hz hG20
          refine KLv (lv' := [(0, .ref (q 2)), (1, .int (iI (m : Int))), (2, .int (iI 0))]) [1, 2, 0] rfl ?_
          have loop51 : ∀ (nX : Nat) (i : Nat) (f : Nat → Int → Int), (sll S q m).length - i < nX → (i ≤ (sll S q m).length) → (GatB S q m i f) → Wk pX l eX (rmK 3 0 0) sX mX argsX belowX methX cX (MQ belowX (QcG g (P_X2_gather S q m)) argsX sX 0 0 (ge (gB g))) g 5 0 0 51 [(0, .ref (q 2)), (1, .int (iI (m : Int))), (2, .int (iI (i : Int)))] [] (wI S f) := by
            intro nX
            induction nX with
            | zero => intro i f hm; exact absurd hm (Nat.not_lt_zero _)
            | succ nX ih51 =>
              intro i f hm51 hi hB
              refine KRg (fun hR => ?_)
              have hc2 := hB.2.2.1
              have e11 : f (q 1) 1 = sI S (q 1) 1 := hB.1 _ _ (fun h => absurd h.1 (hT.ne 1 2)) (hT.ne 1 10) (hT.nway 1)
              have e12 : f (q 1) 2 = sI S (q 1) 2 := hB.1 _ _ (fun h => absurd h.1 (hT.ne 1 2)) (hT.ne 1 10) (hT.nway 1)
              have hCf2 : Cf (wI S f) q := hCf.of (fun k => hB.1 _ _ (fun h => absurd h.1 (hT.ne 1 2)) (hT.ne 1 10) (hT.nway 1))
              refine KIload_n C dX2_gather_51 rfl 2 rfl ?_
              refine KAload_n C dX2_gather_52 rfl 0 rfl ?_
              refine KGetI (S := wI S f) C ul_X2 rfl (by decide) 2 2 rfl (by decide) rfl u_fl_RX2_42 (hT.at0 2 3) (v := ((sll S q m).length : Int)) hB.2.2.1 dX2_gather_53 (fun _ h => h) ?_
              have rb7 := hR.b (q 2) 2 (v := ((sll S q m).length : Int)) hB.2.2.1
              refine KIcmp_ge (tgt := 147) C dX2_gather_56 (by decide) ⟨by omega, by omega⟩ ⟨by omega, by omega⟩ (fun c56 => ?_) (fun c56 => ?_)
              · refine KVret C rfl (by
                  exact ⟨rfl, f, rfl, (show i = (sll S q m).length by omega) ▸ hB⟩) (by decide) (by decide) dX2_gather_147
              · refine KAload_n C dX2_gather_59 rfl 0 rfl ?_
                refine KGetR (S := wI S f) C ul_X2 rfl (by decide) 0 0 rfl (by decide) rfl u_fl_RX2_23 (hT.at0 2 3) (b := q 1) (hT.ptr 2 0 1) dX2_gather_60 (fun _ h => h) ?_
                refine KIconst C dX2_gather_63 ?_
                refine KAload_n C dX2_gather_64 rfl 0 rfl ?_
                refine KGetR (S := wI S f) C ul_X2 rfl (by decide) 1 1 rfl (by decide) rfl u_fl_RX2_9 (hT.at0 2 3) (b := q 10) (hT.ptr 2 1 10) dX2_gather_65 (fun _ h => h) ?_
                refine KIload_n C dX2_gather_68 rfl 2 rfl ?_
                refine KIald (S := wI S f)  (v := sI S (q 6) (((sll S q m).getD i 0 : Nat) : Int)) C 9 (hT.at0 10 20) (hT.ln0 10 9) ⟨by omega, by omega⟩ (by omega) (hB.2.2.2.1 i (by omega)) dX2_gather_69 ?_
                have rb8 := hR.b (q 10) (i : Int) (v := sI S (q 6) (((sll S q m).getD i 0 : Nat) : Int)) (hB.2.2.2.1 i (by omega))
                have hpt := okM_pt ⟨hN1, hN2⟩ hm (j := i) (Or.inl (by omega))
                rw [show pt (sI S (q 6)) (sll S q m) i = sI S (q 6) (((sll S q m).getD i 0 : Nat) : Int) from if_neg (by omega)] at hpt
                obtain ⟨⟨hpt1, hpt2, hpt3⟩, hpt4, hpt5⟩ := hpt
                refine KCallV (As := [.int (iI 0), .int (iI (sI S (q 6) (((sll S q m).getD i 0 : Nat) : Int)))]) (b := q 1) (st := []) C (ct_X3_between l g (wI S f) q 0 (sI S (q 6) (((sll S q m).getD i 0 : Nat) : Int)) hT hCf2 (by omega) (by omega)) u_ml_RX2_73 u_im_yX3_between u_se_yX3_between u_in_RX3 u_co_yX3_between hd_yX3_between (hT.at0 1 4) (by decide) rfl rfl ⟨Nat.le_of_ble_eq_true rfl, Nat.le_of_ble_eq_true rfl⟩ ⟨Nat.le_of_ble_eq_true rfl, Nat.le_of_ble_eq_true rfl⟩ (Nat.le_of_ble_eq_true rfl) dX2_gather_70 rfl (fun v70 u70 hp70 => ?_)
                obtain ⟨rfl, rfl⟩ := hp70
                refine KSt (st2 := [.int (iI (dst (sI (wI S f) (q 1) 1) (sI (wI S f) (q 1) 2) 0 (sI S (q 6) (((sll S q m).getD i 0 : Nat) : Int))))]) rfl ?_
                refine KRg (fun hR => ?_)
                refine KTop (congrArg iI (show dst (sI (wI S f) (q 1) 1) (sI (wI S f) (q 1) 2) 0 (sI S (q 6) (((sll S q m).getD i 0 : Nat) : Int)) = dst (sI S (q 1) 1) (sI S (q 1) 2) 0 (sI S (q 6) (((sll S q m).getD i 0 : Nat) : Int)) from (by rw [show sI (wI S f) (q 1) 1 = sI S (q 1) 1 from e11, show sI (wI S f) (q 1) 2 = sI S (q 1) 2 from e12]))) ?_
                have hdb := dst_b (N := sI S (q 1) 1) (G := sI S (q 1) 2) (x := 0) ⟨hN1, hN2⟩ ⟨hG1, hG2⟩ (by unfold isPl; omega) ⟨hpt1, hpt2, hpt3⟩ (by omega) hpt4
                refine KIstore_n (lv' := [(3, .int (iI (dst (sI S (q 1) 1) (sI S (q 1) 2) 0 (sI S (q 6) (((sll S q m).getD i 0 : Nat) : Int))))), (0, .ref (q 2)), (1, .int (iI (m : Int))), (2, .int (iI (i : Int)))]) C dX2_gather_73 rfl (by decide) rfl ?_
                refine KAload_n C dX2_gather_74 rfl 1 rfl ?_
                refine KGetR (S := wI S f) C ul_X2 rfl (by decide) 3 3 rfl (by decide) rfl u_fl_RX2_17 (hT.at0 2 3) (b := q 11) (hT.ptr 2 3 11) dX2_gather_75 (fun _ h => h) ?_
                refine KIload_n C dX2_gather_78 rfl 3 rfl ?_
                refine KGaldR (S := wI S f) (b := q (20 + i)) C 10 (hT.at0 11 22) (hT.ln0 11 10) ⟨by omega, by omega⟩ (by omega) (hT.way (by omega)) dX2_gather_79 ?_
                refine KBipush C dX2_gather_80 (by decide) ?_
                refine KIload_n C dX2_gather_82 rfl 0 rfl ?_
                refine KIast (S := wI S f) C 10 (hT.wat (by omega)) (hT.wln (by omega)) ⟨by omega, by omega⟩ (by omega) ⟨by omega, by omega⟩ dX2_gather_83 ?_
                refine KAload_n C dX2_gather_84 rfl 1 rfl ?_
                refine KGetR (S := uI (wI S f) (q (20 + i)) 9 (dst (sI S (q 1) 1) (sI S (q 1) 2) 0 (sI S (q 6) (((sll S q m).getD i 0 : Nat) : Int)))) C ul_X2 rfl (by decide) 3 3 rfl (by decide) rfl u_fl_RX2_17 (hT.at0 2 3) (b := q 11) (hT.ptr 2 3 11) dX2_gather_85 (fun _ h => h) ?_
                refine KBipush C dX2_gather_88 (by decide) ?_
                refine KGaldR (S := uI (wI S f) (q (20 + i)) 9 (dst (sI S (q 1) 1) (sI S (q 1) 2) 0 (sI S (q 6) (((sll S q m).getD i 0 : Nat) : Int)))) (b := q 29) C 10 (hT.at0 11 22) (hT.ln0 11 10) ⟨by omega, by omega⟩ (by omega) (hT.way (i := 9) (by omega)) dX2_gather_90 ?_
                refine KIload_n C dX2_gather_91 rfl 3 rfl ?_
                refine KIload_n C dX2_gather_92 rfl 0 rfl ?_
                refine KIast (S := uI (wI S f) (q (20 + i)) 9 (dst (sI S (q 1) 1) (sI S (q 1) 2) 0 (sI S (q 6) (((sll S q m).getD i 0 : Nat) : Int)))) C 10 (hT.at0 29 20) (hT.ln0 29 10) ⟨by omega, by omega⟩ (by omega) ⟨by omega, by omega⟩ dX2_gather_93 ?_
                have hv1 : dst (sI S (q 1) 1) (sI S (q 1) 2) 0 (sI S (q 6) (((sll S q m).getD i 0 : Nat) : Int)) = dM S q m 9 i := by unfold dM dd; rw [show pt (sI S (q 6)) (sll S q m) i = sI S (q 6) (((sll S q m).getD i 0 : Nat) : Int) from if_neg (by omega)]; rfl
                have hv2 : dst (sI S (q 1) 1) (sI S (q 1) 2) 0 (sI S (q 6) (((sll S q m).getD i 0 : Nat) : Int)) = dM S q m i 9 := by rw [hv1]; exact dst_sym _ _ _ _
                have hCc := GatC.init hT hB (i := i) (by omega) _ hv2 hv1
                refine KIconst C dX2_gather_94 ?_
                refine KIstore (lv' := [(4, .int (iI 0)), (3, .int (iI (dst (sI S (q 1) 1) (sI S (q 1) 2) 0 (sI S (q 6) (((sll S q m).getD i 0 : Nat) : Int))))), (0, .ref (q 2)), (1, .int (iI (m : Int))), (2, .int (iI (i : Int)))]) C dX2_gather_95 (by decide) rfl ?_
                refine KLv (lv' := [(0, .ref (q 2)), (1, .int (iI (m : Int))), (2, .int (iI (i : Int))), (3, .int (iI (dst (sI S (q 1) 1) (sI S (q 1) 2) 0 (sI S (q 6) (((sll S q m).getD i 0 : Nat) : Int))))), (4, .int (iI 0))]) [2, 3, 4, 1, 0] rfl ?_
                have loop97 : ∀ (nX : Nat) (j : Nat) (f : Nat → Int → Int), (sll S q m).length - j < nX → (j ≤ (sll S q m).length) → (GatC S q m i j f) → Wk pX l eX (rmK 3 0 0) sX mX argsX belowX methX cX (MQ belowX (QcG g (P_X2_gather S q m)) argsX sX 0 0 (ge (gB g))) g 5 0 0 97 [(0, .ref (q 2)), (1, .int (iI (m : Int))), (2, .int (iI (i : Int))), (3, .int (iI (dst (sI S (q 1) 1) (sI S (q 1) 2) 0 (sI S (q 6) (((sll S q m).getD i 0 : Nat) : Int))))), (4, .int (iI (j : Int)))] [] (wI S f) := by
                  intro nX
                  induction nX with
                  | zero => intro j f hm; exact absurd hm (Nat.not_lt_zero _)
                  | succ nX ih97 =>
                    intro j f hm97 hj hCc
                    refine KRg (fun hR => ?_)
                    have hc2 := hCc.1.2.2.1
                    have e11 : f (q 1) 1 = sI S (q 1) 1 := hCc.1.1 _ _ (fun h => absurd h.1 (hT.ne 1 2)) (hT.ne 1 10) (hT.nway 1)
                    have e12 : f (q 1) 2 = sI S (q 1) 2 := hCc.1.1 _ _ (fun h => absurd h.1 (hT.ne 1 2)) (hT.ne 1 10) (hT.nway 1)
                    have hCf2 : Cf (wI S f) q := hCf.of (fun k => hCc.1.1 _ _ (fun h => absurd h.1 (hT.ne 1 2)) (hT.ne 1 10) (hT.nway 1))
                    refine KIload C dX2_gather_97 4 rfl ?_
                    refine KAload_n C dX2_gather_99 rfl 0 rfl ?_
                    refine KGetI (S := wI S f) C ul_X2 rfl (by decide) 2 2 rfl (by decide) rfl u_fl_RX2_42 (hT.at0 2 3) (v := ((sll S q m).length : Int)) hCc.1.2.2.1 dX2_gather_100 (fun _ h => h) ?_
                    have rb9 := hR.b (q 2) 2 (v := ((sll S q m).length : Int)) hCc.1.2.2.1
                    refine KIcmp_ge (tgt := 141) C dX2_gather_103 (by decide) ⟨by omega, by omega⟩ ⟨by omega, by omega⟩ (fun c103 => ?_) (fun c103 => ?_)
                    · refine KIinc (v := ((i + 1 : Nat) : Int)) (lv' := [(2, .int (iI ((i + 1 : Nat) : Int))), (0, .ref (q 2)), (1, .int (iI (m : Int))), (3, .int (iI (dst (sI S (q 1) 1) (sI S (q 1) 2) 0 (sI S (q 6) (((sll S q m).getD i 0 : Nat) : Int))))), (4, .int (iI (j : Int)))]) C dX2_gather_141 2 rfl (by omega) (by decide) rfl ?_
                      refine KGoto (tgt := 51) C dX2_gather_144 (by decide) ?_
                      refine KLv (lv' := [(0, .ref (q 2)), (1, .int (iI (m : Int))), (2, .int (iI ((i + 1 : Nat) : Int)))]) [1, 2, 0] rfl ?_
                      exact ih51 (i + 1) f (by omega) (by omega) (hCc.done (by omega))
                    · refine KAload_n C dX2_gather_106 rfl 0 rfl ?_
                      refine KGetR (S := wI S f) C ul_X2 rfl (by decide) 3 3 rfl (by decide) rfl u_fl_RX2_17 (hT.at0 2 3) (b := q 11) (hT.ptr 2 3 11) dX2_gather_107 (fun _ h => h) ?_
                      refine KIload_n C dX2_gather_110 rfl 2 rfl ?_
                      refine KGaldR (S := wI S f) (b := q (20 + i)) C 10 (hT.at0 11 22) (hT.ln0 11 10) ⟨by omega, by omega⟩ (by omega) (hT.way (by omega)) dX2_gather_111 ?_
                      refine KIload C dX2_gather_112 4 rfl ?_
                      refine KAload_n C dX2_gather_114 rfl 0 rfl ?_
                      refine KGetR (S := wI S f) C ul_X2 rfl (by decide) 0 0 rfl (by decide) rfl u_fl_RX2_23 (hT.at0 2 3) (b := q 1) (hT.ptr 2 0 1) dX2_gather_115 (fun _ h => h) ?_
                      refine KAload_n C dX2_gather_118 rfl 0 rfl ?_
                      refine KGetR (S := wI S f) C ul_X2 rfl (by decide) 1 1 rfl (by decide) rfl u_fl_RX2_9 (hT.at0 2 3) (b := q 10) (hT.ptr 2 1 10) dX2_gather_119 (fun _ h => h) ?_
                      refine KIload_n C dX2_gather_122 rfl 2 rfl ?_
                      refine KIald (S := wI S f)  (v := sI S (q 6) (((sll S q m).getD i 0 : Nat) : Int)) C 9 (hT.at0 10 20) (hT.ln0 10 9) ⟨by omega, by omega⟩ (by omega) (hCc.1.2.2.2.1 i (by omega)) dX2_gather_123 ?_
                      have rb10 := hR.b (q 10) (i : Int) (v := sI S (q 6) (((sll S q m).getD i 0 : Nat) : Int)) (hCc.1.2.2.2.1 i (by omega))
                      refine KAload_n C dX2_gather_124 rfl 0 rfl ?_
                      refine KGetR (S := wI S f) C ul_X2 rfl (by decide) 1 1 rfl (by decide) rfl u_fl_RX2_9 (hT.at0 2 3) (b := q 10) (hT.ptr 2 1 10) dX2_gather_125 (fun _ h => h) ?_
                      refine KIload C dX2_gather_128 4 rfl ?_
                      refine KIald (S := wI S f)  (v := sI S (q 6) (((sll S q m).getD j 0 : Nat) : Int)) C 9 (hT.at0 10 20) (hT.ln0 10 9) ⟨by omega, by omega⟩ (by omega) (hCc.1.2.2.2.1 j (by omega)) dX2_gather_130 ?_
                      have rb11 := hR.b (q 10) (j : Int) (v := sI S (q 6) (((sll S q m).getD j 0 : Nat) : Int)) (hCc.1.2.2.2.1 j (by omega))
                      have hpj := okM_pt ⟨hN1, hN2⟩ hm (j := j) (Or.inl (by omega))
                      rw [show pt (sI S (q 6)) (sll S q m) j = sI S (q 6) (((sll S q m).getD j 0 : Nat) : Int) from if_neg (by omega)] at hpj
                      obtain ⟨⟨hpj1, hpj2, hpj3⟩, hpj4, hpj5⟩ := hpj
                      refine KCallV (As := [.int (iI (sI S (q 6) (((sll S q m).getD i 0 : Nat) : Int))), .int (iI (sI S (q 6) (((sll S q m).getD j 0 : Nat) : Int)))]) (b := q 1) (st := [.int (iI (j : Int)), .ref (q (20 + i))]) C (ct_X3_between l g (wI S f) q (sI S (q 6) (((sll S q m).getD i 0 : Nat) : Int)) (sI S (q 6) (((sll S q m).getD j 0 : Nat) : Int)) hT hCf2 (by omega) (by omega)) u_ml_RX2_73 u_im_yX3_between u_se_yX3_between u_in_RX3 u_co_yX3_between hd_yX3_between (hT.at0 1 4) (by decide) rfl rfl ⟨Nat.le_of_ble_eq_true rfl, Nat.le_of_ble_eq_true rfl⟩ ⟨Nat.le_of_ble_eq_true rfl, Nat.le_of_ble_eq_true rfl⟩ (Nat.le_of_ble_eq_true rfl) dX2_gather_131 rfl (fun v131 u131 hp131 => ?_)
                      obtain ⟨rfl, rfl⟩ := hp131
                      refine KSt (st2 := [.int (iI (dst (sI (wI S f) (q 1) 1) (sI (wI S f) (q 1) 2) (sI S (q 6) (((sll S q m).getD i 0 : Nat) : Int)) (sI S (q 6) (((sll S q m).getD j 0 : Nat) : Int)))), .int (iI (j : Int)), .ref (q (20 + i))]) rfl ?_
                      refine KRg (fun hR => ?_)
                      refine KTop (congrArg iI (show dst (sI (wI S f) (q 1) 1) (sI (wI S f) (q 1) 2) (sI S (q 6) (((sll S q m).getD i 0 : Nat) : Int)) (sI S (q 6) (((sll S q m).getD j 0 : Nat) : Int)) = dst (sI S (q 1) 1) (sI S (q 1) 2) (sI S (q 6) (((sll S q m).getD i 0 : Nat) : Int)) (sI S (q 6) (((sll S q m).getD j 0 : Nat) : Int)) from (by rw [show sI (wI S f) (q 1) 1 = sI S (q 1) 1 from e11, show sI (wI S f) (q 1) 2 = sI S (q 1) 2 from e12]))) ?_
                      have hdb2 := dst_b (N := sI S (q 1) 1) (G := sI S (q 1) 2) ⟨hN1, hN2⟩ ⟨hG1, hG2⟩ ⟨hpt1, hpt2, hpt3⟩ ⟨hpj1, hpj2, hpj3⟩ hpt4 hpj4
                      refine KIast (S := wI S f) C 10 (hT.wat (by omega)) (hT.wln (by omega)) ⟨by omega, by omega⟩ (by omega) ⟨by omega, by omega⟩ dX2_gather_134 ?_
                      have hv3 : dst (sI S (q 1) 1) (sI S (q 1) 2) (sI S (q 6) (((sll S q m).getD i 0 : Nat) : Int)) (sI S (q 6) (((sll S q m).getD j 0 : Nat) : Int)) = dM S q m i j := by unfold dM dd; rw [show pt (sI S (q 6)) (sll S q m) i = sI S (q 6) (((sll S q m).getD i 0 : Nat) : Int) from if_neg (by omega), show pt (sI S (q 6)) (sll S q m) j = sI S (q 6) (((sll S q m).getD j 0 : Nat) : Int) from if_neg (by omega)]
                      have hC3 := hCc.step hT (j := j) (by omega) (by omega) _ hv3
                      refine KIinc (v := ((j + 1 : Nat) : Int)) (lv' := [(4, .int (iI ((j + 1 : Nat) : Int))), (0, .ref (q 2)), (1, .int (iI (m : Int))), (2, .int (iI (i : Int))), (3, .int (iI (dst (sI S (q 1) 1) (sI S (q 1) 2) 0 (sI S (q 6) (((sll S q m).getD i 0 : Nat) : Int)))))]) C dX2_gather_135 4 rfl (by omega) (by decide) rfl ?_
                      refine KGoto (tgt := 97) C dX2_gather_138 (by decide) ?_
                      refine KLv (lv' := [(0, .ref (q 2)), (1, .int (iI (m : Int))), (2, .int (iI (i : Int))), (3, .int (iI (dst (sI S (q 1) 1) (sI S (q 1) 2) 0 (sI S (q 6) (((sll S q m).getD i 0 : Nat) : Int))))), (4, .int (iI ((j + 1 : Nat) : Int)))]) [1, 2, 3, 4, 0] rfl ?_
                      exact ih97 (j + 1) (up2 f (q (20 + i)) (j : Int) (dst (sI S (q 1) 1) (sI S (q 1) 2) (sI S (q 6) (((sll S q m).getD i 0 : Nat) : Int)) (sI S (q 6) (((sll S q m).getD j 0 : Nat) : Int)))) (by omega) (by omega) hC3
                exact loop97 _ 0 (up2 (up2 f (q (20 + i)) 9 (dst (sI S (q 1) 1) (sI S (q 1) 2) 0 (sI S (q 6) (((sll S q m).getD i 0 : Nat) : Int)))) (q 29) (i : Int) (dst (sI S (q 1) 1) (sI S (q 1) 2) 0 (sI S (q 6) (((sll S q m).getD i 0 : Nat) : Int)))) (Nat.lt_succ_self _) (by omega) hCc
          exact loop51 _ 0 f (Nat.lt_succ_self _) (by omega) hB
        · refine KIload_n C dX2_gather_22 rfl 1 rfl ?_
          refine KIload_n C dX2_gather_23 rfl 2 rfl ?_
          refine KCallSN (As := [.int (iI (m : Int)), .int (iI (p : Int))]) (st := []) C (ct_X5_isIn l g (wI S f) m p (by omega) (by omega)) n_mn_RX2_65 u_st_yX5_isIn u_in_RX5 u_co_yX5_isIn hd_yX5_isIn.2 ⟨Nat.le_of_ble_eq_true rfl, Nat.le_of_ble_eq_true rfl⟩ ⟨Nat.le_of_ble_eq_true rfl, Nat.le_of_ble_eq_true rfl⟩ (Nat.le_of_ble_eq_true rfl) dX2_gather_24 rfl (fun v24 u24 hp24 => ?_)
          obtain ⟨⟨b24, rfl⟩ | ⟨b24, rfl⟩, rfl⟩ := hp24
          · refine KSt (st2 := [.int (iI 1)]) rfl ?_
            refine KIf_eq (tgt := 43) C dX2_gather_27 (by decide) ⟨by omega, by omega⟩ (fun h => absurd h (by decide)) (fun _ => ?_)
            refine KAload_n C dX2_gather_30 rfl 0 rfl ?_
            refine KAload_n C dX2_gather_31 rfl 0 rfl ?_
            refine KGetR (S := wI S f) C ul_X2 rfl (by decide) 0 0 rfl (by decide) rfl u_fl_RX2_23 (hT.at0 2 3) (b := q 1) (hT.ptr 2 0 1) dX2_gather_32 (fun _ h => h) ?_
            refine KGetRN (S := wI S f) C ul_X3 rfl (by decide) 3 3 rfl (by decide) rfl n_fn_RX2_69 (hT.at0 1 4) (b := q 6) (hT.ptr 1 3 6) dX2_gather_35 (fun _ h => h) ?_
            refine KIload_n C dX2_gather_38 rfl 2 rfl ?_
            refine KIald (S := wI S f)  (v := sI S (q 6) (p : Int)) C 20 (hT.at0 6 20) (hT.ln0 6 20) ⟨by omega, by omega⟩ (by omega) (hG.1 _ _ (fun h => absurd h.1 (hT.ne 6 2)) (hT.ne 6 10)) dX2_gather_39 ?_
            have rb12 := hR.b (q 6) (p : Int) (v := sI S (q 6) (p : Int)) (hG.1 _ _ (fun h => absurd h.1 (hT.ne 6 2)) (hT.ne 6 10))
            refine KCallV (As := [.int (iI (sI S (q 6) (p : Int)))]) (b := q 2) (st := []) C (ct_X2_insertPlace l g (wI S f) q ((sl (sI S (q 6)) m p).length) (sI S (q 6) (p : Int)) hT hG.2.1 (by omega) (⟨by omega, by omega⟩)) u_ml_RX2_70 u_im_yX2_insertPlace u_se_yX2_insertPlace u_in_RX2 u_co_yX2_insertPlace hd_yX2_insertPlace (hT.at0 2 3) (by decide) rfl rfl ⟨Nat.le_of_ble_eq_true rfl, Nat.le_of_ble_eq_true rfl⟩ ⟨Nat.le_of_ble_eq_true rfl, Nat.le_of_ble_eq_true rfl⟩ (Nat.le_of_ble_eq_true rfl) dX2_gather_40 rfl (fun v40 u40 hp40 => ?_)
            obtain ⟨rfl, rfl⟩ := hp40
            refine KSt (st2 := []) rfl ?_
            refine KRg (fun hR => ?_)
            obtain ⟨f2, hf2⟩ : ∃ f2, f2 = up2 (row1 f (q 10) (insAt (f (q 10)) (insPosN (fun j => decide (sI S (q 6) (p : Int) < f (q 10) (j : Int))) (sl (sI S (q 6)) m p).length) (sl (sI S (q 6)) m p).length (sI S (q 6) (p : Int)))) (q 2) 2 (((sl (sI S (q 6)) m p).length : Int) + 1) := ⟨_, rfl⟩
            refine KSto (S2 := wI S f2) (by rw [hf2]) ?_
            refine KIinc (v := ((p + 1 : Nat) : Int)) (lv' := [(2, .int (iI ((p + 1 : Nat) : Int))), (0, .ref (q 2)), (1, .int (iI (m : Int)))]) C dX2_gather_43 2 rfl (by omega) (by decide) rfl ?_
            refine KGoto (tgt := 7) C dX2_gather_46 (by decide) ?_
            refine KLv (lv' := [(0, .ref (q 2)), (1, .int (iI (m : Int))), (2, .int (iI ((p + 1 : Nat) : Int)))]) [1, 2, 0] rfl ?_
            exact ih7 (p + 1) f2 (by omega) (by omega) (by first | exact hG.skip (by assumption) | exact hf2 ▸ hG.put hT (by assumption))
          · refine KSt (st2 := [.int (iI 0)]) rfl ?_
            refine KIf_eq (tgt := 43) C dX2_gather_27 (by decide) ⟨by omega, by omega⟩ (fun _ => ?_) (fun h => absurd h (by decide))
            refine KIinc (v := ((p + 1 : Nat) : Int)) (lv' := [(2, .int (iI ((p + 1 : Nat) : Int))), (0, .ref (q 2)), (1, .int (iI (m : Int)))]) C dX2_gather_43 2 rfl (by omega) (by decide) rfl ?_
            refine KGoto (tgt := 7) C dX2_gather_46 (by decide) ?_
            refine KLv (lv' := [(0, .ref (q 2)), (1, .int (iI (m : Int))), (2, .int (iI ((p + 1 : Nat) : Int)))]) [1, 2, 0] rfl ?_
            exact ih7 (p + 1) f (by omega) (by omega) (by first | exact hG.skip (by assumption) | exact hf2 ▸ hG.put hT (by assumption))
  exact loop7 _ 0 (up2 (sI S) (q 2) 2 0) (Nat.lt_succ_self _) (by omega) GatA.init
