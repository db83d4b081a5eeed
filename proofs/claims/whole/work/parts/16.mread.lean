def P_X6_wanted (S : Sto) (q : Nat → Nat) (o : Nat) : Option Value → Sto → Prop := fun v u => v = some (.int (iI ((zW (sgM S q) o : Nat) : Int))) ∧ S = u
set_option maxRecDepth 100000 in
set_option maxHeartbeats 4000000 in
theorem ct_X6_wanted (l : Launch) (g : GG) (S : Sto) (q : Nat → Nat) (o : Nat) (hT : Top S q) (hWl : Wl (sgM S q)) (ho : o < zo (sgM S q)) : MetS l g yX6_wanted cX6_wanted 4 (some FieldType.int) 1 0 0 [.ref (q 80), .int (iI (o : Int))] S (P_X6_wanted S q o) := by
  refine MetS.of (own := RX6) (lv := [(0, .ref (q 80)), (1, .int (iI (o : Int)))]) (by decide) rfl (Nat.le_of_ble_eq_true rfl) rfl ?_
  intro pX eX sX mX argsX belowX methX cX C hin
  refine KRg (fun hR => ?_)
  have ho40 := hWl.1
  obtain ⟨⟨hm1, hm2⟩, hm3⟩ := hWl.2 o ho
  change 0 ≤ sI S (q 85) (o : Int) at hm1
  change sI S (q 85) (o : Int) ≤ 5 at hm2
  change ∀ k : Nat, (k : Int) < sI S (q 85) (o : Int) → 0 ≤ sI S (q 86) ((5 * o + k : Nat) : Int) ∧ sI S (q 86) ((5 * o + k : Nat) : Int) < 20 at hm3
  refine KIconst C dX6_wanted_0 ?_
  refine KIstore_n (lv' := [(2, .int (iI 0)), (0, .ref (q 80)), (1, .int (iI (o : Int)))]) C dX6_wanted_1 rfl (by decide) rfl ?_
  refine KIconst C dX6_wanted_2 ?_
  refine KIstore_n (lv' := [(3, .int (iI 0)), (2, .int (iI 0)), (0, .ref (q 80)), (1, .int (iI (o : Int)))]) C dX6_wanted_3 rfl (by decide) rfl ?_
  refine KLv (lv' := [(0, .ref (q 80)), (1, .int (iI (o : Int))), (2, .int (iI 0)), (3, .int (iI 0))]) [2, 3, 1, 0] rfl ?_
  have loop4 : ∀ (nX : Nat) (k : Nat), 5 - k < nX → ((k : Int) ≤ sI S (q 85) (o : Int)) → Wk pX l eX (rmK 1 0 0) sX mX argsX belowX methX cX (MQ belowX (QcG g (P_X6_wanted S q o)) argsX sX 0 0 (ge (gB g))) g 4 0 0 4 [(0, .ref (q 80)), (1, .int (iI (o : Int))), (2, .int (iI ((wnt (sI S (q 86)) o k : Nat) : Int))), (3, .int (iI (k : Int)))] [] S := by
    intro nX
    induction nX with
    | zero => intro k hm; exact absurd hm (Nat.not_lt_zero _)
    | succ nX ih4 =>
      intro k hm4 hk
      refine KRg (fun hR => ?_)
      refine KIload_n C dX6_wanted_4 rfl 3 rfl ?_
      refine KAload_n C dX6_wanted_5 rfl 0 rfl ?_
      refine KGetR C ul_X6 rfl (by decide) 10 10 rfl (by decide) rfl u_fl_RX6_26 (hT.at0 80 7) (b := q 85) (hT.ptr 80 10 85) dX6_wanted_6 (fun _ h => h) ?_
      refine KIload_n C dX6_wanted_9 rfl 1 rfl ?_
      refine KIald  (v := sI S (q 85) (o : Int)) C 40 (hT.at0 85 20) (hT.ln0 85 40) ⟨by omega, by omega⟩ (by omega) rfl dX6_wanted_10 ?_
      have rb1 := hR.b (q 85) (o : Int) (v := sI S (q 85) (o : Int)) rfl
      refine KIcmp_ge (tgt := 35) C dX6_wanted_11 (by decide) ⟨by omega, by omega⟩ ⟨by omega, by omega⟩ (fun c11 => ?_) (fun c11 => ?_)
      · refine KIload_n C dX6_wanted_35 rfl 2 rfl ?_
        refine KIret C rfl rfl (by
          refine ⟨?_, rfl⟩
          rw [show zW (sgM S q) o = wnt (sI S (q 86)) o (sI S (q 85) (o : Int)).toNat from rfl, show (sI S (q 85) (o : Int)).toNat = k by omega]) (by decide) (by decide) dX6_wanted_36
      · refine KIload_n C dX6_wanted_14 rfl 2 rfl ?_
        refine KIconst C dX6_wanted_15 ?_
        refine KAload_n C dX6_wanted_16 rfl 0 rfl ?_
        refine KGetR C ul_X6 rfl (by decide) 11 11 rfl (by decide) rfl u_fl_RX6_29 (hT.at0 80 7) (b := q 86) (hT.ptr 80 11 86) dX6_wanted_17 (fun _ h => h) ?_
        refine KIconst C dX6_wanted_20 ?_
        refine KIload_n C dX6_wanted_21 rfl 1 rfl ?_
        refine KImul C dX6_wanted_22 ?_
        refine KIload_n C dX6_wanted_23 rfl 3 rfl ?_
        refine KIadd C dX6_wanted_24 ?_
        refine KTop (congrArg iI (show (5 * (o : Int)) + (k : Int) = ((5 * o + k : Nat) : Int) from (by omega))) ?_
        refine KIald  (v := sI S (q 86) ((5 * o + k : Nat) : Int)) C 200 (hT.at0 86 20) (hT.ln0 86 200) ⟨by omega, by omega⟩ (by omega) rfl dX6_wanted_25 ?_
        have rb2 := hR.b (q 86) ((5 * o + k : Nat) : Int) (v := sI S (q 86) ((5 * o + k : Nat) : Int)) rfl
        have hp3 := hm3 k (by omega)
        refine KIshl (v := iI ((2 ^ (sI S (q 86) ((5 * o + k : Nat) : Int)).toNat : Nat) : Int)) C dX6_wanted_26 (ib_shlI (by omega) (by omega)) ?_
        refine KIor (v := iI ((wnt (sI S (q 86)) o (k + 1) : Nat) : Int)) C dX6_wanted_27 (ib_or _ _) ?_
        refine KIstore_n (lv' := [(2, .int (iI ((wnt (sI S (q 86)) o (k + 1) : Nat) : Int))), (0, .ref (q 80)), (1, .int (iI (o : Int))), (3, .int (iI (k : Int)))]) C dX6_wanted_28 rfl (by decide) rfl ?_
        refine KIinc (v := ((k + 1 : Nat) : Int)) (lv' := [(3, .int (iI ((k + 1 : Nat) : Int))), (2, .int (iI ((wnt (sI S (q 86)) o (k + 1) : Nat) : Int))), (0, .ref (q 80)), (1, .int (iI (o : Int)))]) C dX6_wanted_29 3 rfl (by omega) (by decide) rfl ?_
        refine KGoto (tgt := 4) C dX6_wanted_32 (by decide) ?_
        refine KLv (lv' := [(0, .ref (q 80)), (1, .int (iI (o : Int))), (2, .int (iI ((wnt (sI S (q 86)) o (k + 1) : Nat) : Int))), (3, .int (iI ((k + 1 : Nat) : Int)))]) [2, 3, 1, 0] rfl ?_
        exact ih4 (k + 1) (by omega) (by omega)
  exact loop4 _ 0 (Nat.lt_succ_self _) (by omega)
def P_X6_productsOf (S : Sto) (q : Nat → Nat) (b : Int) : Option Value → Sto → Prop := fun v u => v = some (.int (iI ((zpd (sgM S q) b : Nat) : Int))) ∧ S = u
set_option maxRecDepth 100000 in
set_option maxHeartbeats 4000000 in
theorem ct_X6_productsOf (l : Launch) (g : GG) (S : Sto) (q : Nat → Nat) (b : Int) (hT : Top S q) (hWl : Wl (sgM S q)) (hCn : Cn S q) (hb : -1 ≤ b ∧ b ≤ 100) : MetS l g yX6_productsOf cX6_productsOf 4 (some FieldType.int) 2 0 0 [.ref (q 80), .int (iI b)] S (P_X6_productsOf S q b) := by
  refine MetS.of (own := RX6) (lv := [(0, .ref (q 80)), (1, .int (iI b))]) (by decide) rfl (Nat.le_of_ble_eq_true rfl) rfl ?_
  intro pX eX sX mX argsX belowX methX cX C hin
  refine KRg (fun hR => ?_)
  obtain ⟨hc6, hc13⟩ := id hCn
  have ho40 := hWl.1
  refine KIconst C dX6_productsOf_0 ?_
  refine KIstore_n (lv' := [(2, .int (iI 0)), (0, .ref (q 80)), (1, .int (iI b))]) C dX6_productsOf_1 rfl (by decide) rfl ?_
  refine KIconst C dX6_productsOf_2 ?_
  refine KIstore_n (lv' := [(3, .int (iI 0)), (2, .int (iI 0)), (0, .ref (q 80)), (1, .int (iI b))]) C dX6_productsOf_3 rfl (by decide) rfl ?_
  refine KLv (lv' := [(0, .ref (q 80)), (1, .int (iI b)), (2, .int (iI 0)), (3, .int (iI 0))]) [2, 3, 1, 0] rfl ?_
  have loop4 : ∀ (nX : Nat) (o : Nat), zo (sgM S q) - o < nX → (o ≤ zo (sgM S q)) → Wk pX l eX (rmK 2 0 0) sX mX argsX belowX methX cX (MQ belowX (QcG g (P_X6_productsOf S q b)) argsX sX 0 0 (ge (gB g))) g 4 0 0 4 [(0, .ref (q 80)), (1, .int (iI b)), (2, .int (iI ((prd (sI S (q 84)) (zW (sgM S q)) b o : Nat) : Int))), (3, .int (iI (o : Int)))] [] S := by
    intro nX
    induction nX with
    | zero => intro o hm; exact absurd hm (Nat.not_lt_zero _)
    | succ nX ih4 =>
      intro o hm4 ho
      refine KRg (fun hR => ?_)
      refine KIload_n C dX6_productsOf_4 rfl 3 rfl ?_
      refine KAload_n C dX6_productsOf_5 rfl 0 rfl ?_
      refine KGetI C ul_X6 rfl (by decide) 6 6 rfl (by decide) rfl u_fl_RX6_66 (hT.at0 80 7) (v := ((zo (sgM S q) : Nat) : Int)) hc6 dX6_productsOf_6 (fun _ h => h) ?_
      have rb1 := hR.b (q 80) 6 (v := ((zo (sgM S q) : Nat) : Int)) hc6
      refine KIcmp_ge (tgt := 40) C dX6_productsOf_9 (by decide) ⟨by omega, by omega⟩ ⟨by omega, by omega⟩ (fun c9 => ?_) (fun c9 => ?_)
      · refine KIload_n C dX6_productsOf_40 rfl 2 rfl ?_
        refine KIret C rfl rfl (by
          refine ⟨?_, rfl⟩
          rw [show zpd (sgM S q) b = prd (sI S (q 84)) (zW (sgM S q)) b (zo (sgM S q)) from rfl, show zo (sgM S q) = o by omega]) (by decide) (by decide) dX6_productsOf_41
      · refine KIload_n C dX6_productsOf_12 rfl 2 rfl ?_
        refine KAload_n C dX6_productsOf_13 rfl 0 rfl ?_
        refine KGetR C ul_X6 rfl (by decide) 9 9 rfl (by decide) rfl u_fl_RX6_23 (hT.at0 80 7) (b := q 84) (hT.ptr 80 9 84) dX6_productsOf_14 (fun _ h => h) ?_
        refine KIload_n C dX6_productsOf_17 rfl 3 rfl ?_
        refine KIald  (v := sI S (q 84) (o : Int)) C 40 (hT.at0 84 20) (hT.ln0 84 40) ⟨by omega, by omega⟩ (by omega) rfl dX6_productsOf_18 ?_
        have rb2 := hR.b (q 84) (o : Int) (v := sI S (q 84) (o : Int)) rfl
        refine KIload_n C dX6_productsOf_19 rfl 1 rfl ?_
        refine KIcmp_ne (tgt := 31) C dX6_productsOf_20 (by decide) ⟨by omega, by omega⟩ ⟨by omega, by omega⟩ (fun c20 => ?_) (fun c20 => ?_)
        · refine KIconst C dX6_productsOf_31 ?_
          refine KIor (v := iI ((prd (sI S (q 84)) (zW (sgM S q)) b (o + 1) : Nat) : Int)) C dX6_productsOf_32 (by first | exact pr_t (by assumption) | exact pr_f (by assumption)) ?_
          refine KIstore_n (lv' := [(2, .int (iI ((prd (sI S (q 84)) (zW (sgM S q)) b (o + 1) : Nat) : Int))), (0, .ref (q 80)), (1, .int (iI b)), (3, .int (iI (o : Int)))]) C dX6_productsOf_33 rfl (by decide) rfl ?_
          refine KIinc (v := ((o + 1 : Nat) : Int)) (lv' := [(3, .int (iI ((o + 1 : Nat) : Int))), (2, .int (iI ((prd (sI S (q 84)) (zW (sgM S q)) b (o + 1) : Nat) : Int))), (0, .ref (q 80)), (1, .int (iI b))]) C dX6_productsOf_34 3 rfl (by omega) (by decide) rfl ?_
          refine KGoto (tgt := 4) C dX6_productsOf_37 (by decide) ?_
          refine KLv (lv' := [(0, .ref (q 80)), (1, .int (iI b)), (2, .int (iI ((prd (sI S (q 84)) (zW (sgM S q)) b (o + 1) : Nat) : Int))), (3, .int (iI ((o + 1 : Nat) : Int)))]) [2, 3, 1, 0] rfl ?_
          exact ih4 (o + 1) (by omega) (by omega)
        · refine KAload_n C dX6_productsOf_23 rfl 0 rfl ?_
          refine KIload_n C dX6_productsOf_24 rfl 3 rfl ?_
          refine KCallV (As := [.int (iI (o : Int))]) (b := q 80) (st := [.int (iI ((prd (sI S (q 84)) (zW (sgM S q)) b o : Nat) : Int))]) C (ct_X6_wanted l g S q o hT hWl (by omega)) u_ml_RX6_111 u_im_yX6_wanted u_se_yX6_wanted u_in_RX6 u_co_yX6_wanted hd_yX6_wanted (hT.at0 80 7) (by decide) rfl rfl ⟨Nat.le_of_ble_eq_true rfl, Nat.le_of_ble_eq_true rfl⟩ ⟨Nat.le_of_ble_eq_true rfl, Nat.le_of_ble_eq_true rfl⟩ (Nat.le_of_ble_eq_true rfl) dX6_productsOf_25 rfl (fun v25 u25 hp25 => ?_)
          obtain ⟨rfl, rfl⟩ := hp25
          refine KSt (st2 := [.int (iI ((zW (sgM S q) o : Nat) : Int)), .int (iI ((prd (sI S (q 84)) (zW (sgM S q)) b o : Nat) : Int))]) rfl ?_
          refine KGoto (tgt := 32) C dX6_productsOf_28 (by decide) ?_
          refine KIor (v := iI ((prd (sI S (q 84)) (zW (sgM S q)) b (o + 1) : Nat) : Int)) C dX6_productsOf_32 (by first | exact pr_t (by assumption) | exact pr_f (by assumption)) ?_
          refine KIstore_n (lv' := [(2, .int (iI ((prd (sI S (q 84)) (zW (sgM S q)) b (o + 1) : Nat) : Int))), (0, .ref (q 80)), (1, .int (iI b)), (3, .int (iI (o : Int)))]) C dX6_productsOf_33 rfl (by decide) rfl ?_
          refine KIinc (v := ((o + 1 : Nat) : Int)) (lv' := [(3, .int (iI ((o + 1 : Nat) : Int))), (2, .int (iI ((prd (sI S (q 84)) (zW (sgM S q)) b (o + 1) : Nat) : Int))), (0, .ref (q 80)), (1, .int (iI b))]) C dX6_productsOf_34 3 rfl (by omega) (by decide) rfl ?_
          refine KGoto (tgt := 4) C dX6_productsOf_37 (by decide) ?_
          refine KLv (lv' := [(0, .ref (q 80)), (1, .int (iI b)), (2, .int (iI ((prd (sI S (q 84)) (zW (sgM S q)) b (o + 1) : Nat) : Int))), (3, .int (iI ((o + 1 : Nat) : Int)))]) [2, 3, 1, 0] rfl ?_
          exact ih4 (o + 1) (by omega) (by omega)
  exact loop4 _ 0 (Nat.lt_succ_self _) (by omega)
def P_X6_countLines (S : Sto) (q : Nat → Nat) (b : Int) : Option Value → Sto → Prop := fun v u => v = some (.int (iI (zln (sgM S q) b))) ∧ S = u
set_option maxRecDepth 100000 in
set_option maxHeartbeats 4000000 in
theorem ct_X6_countLines (l : Launch) (g : GG) (S : Sto) (q : Nat → Nat) (b : Int) (hT : Top S q) (hWl : Wl (sgM S q)) (hCn : Cn S q) (hb : -1 ≤ b ∧ b ≤ 100) : MetS l g yX6_countLines cX6_countLines 4 (some FieldType.int) 1 0 0 [.ref (q 80), .int (iI b)] S (P_X6_countLines S q b) := by
  refine MetS.of (own := RX6) (lv := [(0, .ref (q 80)), (1, .int (iI b))]) (by decide) rfl (Nat.le_of_ble_eq_true rfl) rfl ?_
  intro pX eX sX mX argsX belowX methX cX C hin
  refine KRg (fun hR => ?_)
  obtain ⟨hc6, hc13⟩ := id hCn
  have ho40 := hWl.1
  refine KIconst C dX6_countLines_0 ?_
  refine KIstore_n (lv' := [(2, .int (iI 0)), (0, .ref (q 80)), (1, .int (iI b))]) C dX6_countLines_1 rfl (by decide) rfl ?_
  refine KIconst C dX6_countLines_2 ?_
  refine KIstore_n (lv' := [(3, .int (iI 0)), (2, .int (iI 0)), (0, .ref (q 80)), (1, .int (iI b))]) C dX6_countLines_3 rfl (by decide) rfl ?_
  refine KLv (lv' := [(0, .ref (q 80)), (1, .int (iI b)), (2, .int (iI 0)), (3, .int (iI 0))]) [2, 3, 1, 0] rfl ?_
  have loop4 : ∀ (nX : Nat) (o : Nat), zo (sgM S q) - o < nX → (o ≤ zo (sgM S q)) → Wk pX l eX (rmK 1 0 0) sX mX argsX belowX methX cX (MQ belowX (QcG g (P_X6_countLines S q b)) argsX sX 0 0 (ge (gB g))) g 4 0 0 4 [(0, .ref (q 80)), (1, .int (iI b)), (2, .int (iI (cln (sI S (q 84)) (sI S (q 85)) b o))), (3, .int (iI (o : Int)))] [] S := by
    intro nX
    induction nX with
    | zero => intro o hm; exact absurd hm (Nat.not_lt_zero _)
    | succ nX ih4 =>
      intro o hm4 ho
      refine KRg (fun hR => ?_)
      refine KIload_n C dX6_countLines_4 rfl 3 rfl ?_
      refine KAload_n C dX6_countLines_5 rfl 0 rfl ?_
      refine KGetI C ul_X6 rfl (by decide) 6 6 rfl (by decide) rfl u_fl_RX6_66 (hT.at0 80 7) (v := ((zo (sgM S q) : Nat) : Int)) hc6 dX6_countLines_6 (fun _ h => h) ?_
      have rb1 := hR.b (q 80) 6 (v := ((zo (sgM S q) : Nat) : Int)) hc6
      refine KIcmp_ge (tgt := 41) C dX6_countLines_9 (by decide) ⟨by omega, by omega⟩ ⟨by omega, by omega⟩ (fun c9 => ?_) (fun c9 => ?_)
      · refine KIload_n C dX6_countLines_41 rfl 2 rfl ?_
        refine KIret C rfl rfl (by
          refine ⟨?_, rfl⟩
          rw [show zln (sgM S q) b = cln (sI S (q 84)) (sI S (q 85)) b (zo (sgM S q)) from rfl, show zo (sgM S q) = o by omega]) (by decide) (by decide) dX6_countLines_42
      · refine KIload_n C dX6_countLines_12 rfl 2 rfl ?_
        refine KAload_n C dX6_countLines_13 rfl 0 rfl ?_
        refine KGetR C ul_X6 rfl (by decide) 9 9 rfl (by decide) rfl u_fl_RX6_23 (hT.at0 80 7) (b := q 84) (hT.ptr 80 9 84) dX6_countLines_14 (fun _ h => h) ?_
        refine KIload_n C dX6_countLines_17 rfl 3 rfl ?_
        refine KIald  (v := sI S (q 84) (o : Int)) C 40 (hT.at0 84 20) (hT.ln0 84 40) ⟨by omega, by omega⟩ (by omega) rfl dX6_countLines_18 ?_
        have rb2 := hR.b (q 84) (o : Int) (v := sI S (q 84) (o : Int)) rfl
        refine KIload_n C dX6_countLines_19 rfl 1 rfl ?_
        refine KIcmp_ne (tgt := 32) C dX6_countLines_20 (by decide) ⟨by omega, by omega⟩ ⟨by omega, by omega⟩ (fun c20 => ?_) (fun c20 => ?_)
        · refine KIconst C dX6_countLines_32 ?_
          refine KIadd C dX6_countLines_33 ?_
          refine KTop (congrArg iI (show (cln (sI S (q 84)) (sI S (q 85)) b o) + 0 = cln (sI S (q 84)) (sI S (q 85)) b (o + 1) from (by first | exact cl_t (by assumption) | exact cl_f (by assumption)))) ?_
          refine KIstore_n (lv' := [(2, .int (iI (cln (sI S (q 84)) (sI S (q 85)) b (o + 1)))), (0, .ref (q 80)), (1, .int (iI b)), (3, .int (iI (o : Int)))]) C dX6_countLines_34 rfl (by decide) rfl ?_
          refine KIinc (v := ((o + 1 : Nat) : Int)) (lv' := [(3, .int (iI ((o + 1 : Nat) : Int))), (2, .int (iI (cln (sI S (q 84)) (sI S (q 85)) b (o + 1)))), (0, .ref (q 80)), (1, .int (iI b))]) C dX6_countLines_35 3 rfl (by omega) (by decide) rfl ?_
          refine KGoto (tgt := 4) C dX6_countLines_38 (by decide) ?_
          refine KLv (lv' := [(0, .ref (q 80)), (1, .int (iI b)), (2, .int (iI (cln (sI S (q 84)) (sI S (q 85)) b (o + 1)))), (3, .int (iI ((o + 1 : Nat) : Int)))]) [2, 3, 1, 0] rfl ?_
          exact ih4 (o + 1) (by omega) (by omega)
        · refine KAload_n C dX6_countLines_23 rfl 0 rfl ?_
          refine KGetR C ul_X6 rfl (by decide) 10 10 rfl (by decide) rfl u_fl_RX6_26 (hT.at0 80 7) (b := q 85) (hT.ptr 80 10 85) dX6_countLines_24 (fun _ h => h) ?_
          refine KIload_n C dX6_countLines_27 rfl 3 rfl ?_
          refine KIald  (v := sI S (q 85) (o : Int)) C 40 (hT.at0 85 20) (hT.ln0 85 40) ⟨by omega, by omega⟩ (by omega) rfl dX6_countLines_28 ?_
          have rb3 := hR.b (q 85) (o : Int) (v := sI S (q 85) (o : Int)) rfl
          refine KGoto (tgt := 33) C dX6_countLines_29 (by decide) ?_
          refine KIadd C dX6_countLines_33 ?_
          refine KTop (congrArg iI (show (cln (sI S (q 84)) (sI S (q 85)) b o) + (sI S (q 85) (o : Int)) = cln (sI S (q 84)) (sI S (q 85)) b (o + 1) from (by first | exact cl_t (by assumption) | exact cl_f (by assumption)))) ?_
          refine KIstore_n (lv' := [(2, .int (iI (cln (sI S (q 84)) (sI S (q 85)) b (o + 1)))), (0, .ref (q 80)), (1, .int (iI b)), (3, .int (iI (o : Int)))]) C dX6_countLines_34 rfl (by decide) rfl ?_
          refine KIinc (v := ((o + 1 : Nat) : Int)) (lv' := [(3, .int (iI ((o + 1 : Nat) : Int))), (2, .int (iI (cln (sI S (q 84)) (sI S (q 85)) b (o + 1)))), (0, .ref (q 80)), (1, .int (iI b))]) C dX6_countLines_35 3 rfl (by omega) (by decide) rfl ?_
          refine KGoto (tgt := 4) C dX6_countLines_38 (by decide) ?_
          refine KLv (lv' := [(0, .ref (q 80)), (1, .int (iI b)), (2, .int (iI (cln (sI S (q 84)) (sI S (q 85)) b (o + 1)))), (3, .int (iI ((o + 1 : Nat) : Int)))]) [2, 3, 1, 0] rfl ?_
          exact ih4 (o + 1) (by omega) (by omega)
  exact loop4 _ 0 (Nat.lt_succ_self _) (by omega)
def P_X6_closeUp (S : Sto) (q : Nat → Nat) (b : Int) : Option Value → Sto → Prop := fun v u => v = none ∧ u = wI S (up2 (row1 (sI S) (q 84) (clo (sI S (q 84)) b (zo (sgM S q)))) (q 80) 13 (((zb (sgM S q) : Nat) : Int) - 1))
set_option maxRecDepth 100000 in
set_option maxHeartbeats 4000000 in
theorem ct_X6_closeUp (l : Launch) (g : GG) (S : Sto) (q : Nat → Nat) (b : Int) (hT : Top S q) (hCn : Cn S q) (ho40 : zo (sgM S q) ≤ 40) (hb : -1 ≤ b ∧ b ≤ 100) (hbt : ∀ o : Nat, o < zo (sgM S q) → -1 ≤ sI S (q 84) (o : Int) ∧ sI S (q 84) (o : Int) ≤ 100) : MetS l g yX6_closeUp cX6_closeUp 3 (none) 1 0 0 [.ref (q 80), .int (iI b)] S (P_X6_closeUp S q b) := by
  refine MetS.of (own := RX6) (lv := [(0, .ref (q 80)), (1, .int (iI b))]) (by decide) rfl (Nat.le_of_ble_eq_true rfl) rfl ?_
  intro pX eX sX mX argsX belowX methX cX C hin
  refine KRg (fun hR => ?_)
  obtain ⟨hc6, hc13⟩ := id hCn
  refine KIconst C dX6_closeUp_0 ?_
  refine KIstore_n (lv' := [(2, .int (iI 0)), (0, .ref (q 80)), (1, .int (iI b))]) C dX6_closeUp_1 rfl (by decide) rfl ?_
  refine KSto (S2 := wI S (row1 (sI S) (q 84) (clo (sI S (q 84)) b 0))) (by rw [clo_0, row1_self]) ?_
  refine KLv (lv' := [(0, .ref (q 80)), (1, .int (iI b)), (2, .int (iI 0))]) [1, 2, 0] rfl ?_
  have loop2 : ∀ (nX : Nat) (o : Nat), zo (sgM S q) - o < nX → (o ≤ zo (sgM S q)) → Wk pX l eX (rmK 1 0 0) sX mX argsX belowX methX cX (MQ belowX (QcG g (P_X6_closeUp S q b)) argsX sX 0 0 (ge (gB g))) g 3 0 0 2 [(0, .ref (q 80)), (1, .int (iI b)), (2, .int (iI (o : Int)))] [] (wI S (row1 (sI S) (q 84) (clo (sI S (q 84)) b o))) := by
    intro nX
    induction nX with
    | zero => intro o hm; exact absurd hm (Nat.not_lt_zero _)
    | succ nX ih2 =>
      intro o hm2 ho
      refine KRg (fun hR => ?_)
      refine KIload_n C dX6_closeUp_2 rfl 2 rfl ?_
      refine KAload_n C dX6_closeUp_3 rfl 0 rfl ?_
      refine KGetI (S := wI S (row1 (sI S) (q 84) (clo (sI S (q 84)) b o))) C ul_X6 rfl (by decide) 6 6 rfl (by decide) rfl u_fl_RX6_66 (hT.at0 80 7) (v := ((zo (sgM S q) : Nat) : Int)) ((row1_ne _ _ _ (hT.ne 80 84)).trans hc6) dX6_closeUp_4 (fun _ h => h) ?_
      have rb1 := hR.b (q 80) 6 (v := ((zo (sgM S q) : Nat) : Int)) ((row1_ne _ _ _ (hT.ne 80 84)).trans hc6)
      refine KIcmp_ge (tgt := 40) C dX6_closeUp_7 (by decide) ⟨by omega, by omega⟩ ⟨by omega, by omega⟩ (fun c7 => ?_) (fun c7 => ?_)
      · refine KAload_n C dX6_closeUp_40 rfl 0 rfl ?_
        refine KDup C dX6_closeUp_41 rfl ?_
        refine KGetI (S := wI S (row1 (sI S) (q 84) (clo (sI S (q 84)) b o))) C ul_X6 rfl (by decide) 13 13 rfl (by decide) rfl u_fl_RX6_69 (hT.at0 80 7) (v := ((zb (sgM S q) : Nat) : Int)) ((row1_ne _ _ _ (hT.ne 80 84)).trans hc13) dX6_closeUp_42 (fun _ h => h) ?_
        have rb2 := hR.b (q 80) 13 (v := ((zb (sgM S q) : Nat) : Int)) ((row1_ne _ _ _ (hT.ne 80 84)).trans hc13)
        refine KIconst C dX6_closeUp_45 ?_
        refine KIsub C dX6_closeUp_46 ?_
        refine KPutI (S := wI S (row1 (sI S) (q 84) (clo (sI S (q 84)) b o))) (ty := .int) (v := ((zb (sgM S q) : Nat) : Int) - 1) C ul_X6 rfl (by decide) 13 13 rfl (by decide) rfl u_fl_RX6_69 tyX6 tyX6_ok nmX6 (hT.at0 80 7) ⟨by omega, by omega⟩ (by decide +kernel) rfl rfl rfl dX6_closeUp_47 (fun _ h => h) ?_
        refine KVret C rfl (by
          have e9 : zo (sgM S q) = o := by omega
          unfold P_X6_closeUp
          rw [e9]
          exact ⟨rfl, rfl⟩) (by decide) (by decide) dX6_closeUp_50
      · refine KAload_n C dX6_closeUp_10 rfl 0 rfl ?_
        refine KGetR (S := wI S (row1 (sI S) (q 84) (clo (sI S (q 84)) b o))) C ul_X6 rfl (by decide) 9 9 rfl (by decide) rfl u_fl_RX6_23 (hT.at0 80 7) (b := q 84) (hT.ptr 80 9 84) dX6_closeUp_11 (fun _ h => h) ?_
        refine KIload_n C dX6_closeUp_14 rfl 2 rfl ?_
        refine KDup2 C dX6_closeUp_15 rfl rfl ?_
        refine KIald (S := wI S (row1 (sI S) (q 84) (clo (sI S (q 84)) b o)))  (v := sI S (q 84) (o : Int)) C 40 (hT.at0 84 20) (hT.ln0 84 40) ⟨by omega, by omega⟩ (by omega) ((row1_same _ _ _ _).trans (clo_at _ _ _)) dX6_closeUp_16 ?_
        have rb3 := hR.b (q 84) (o : Int) (v := sI S (q 84) (o : Int)) ((row1_same _ _ _ _).trans (clo_at _ _ _))
        have hbo := hbt o (by omega)
        refine KAload_n C dX6_closeUp_17 rfl 0 rfl ?_
        refine KGetR (S := wI S (row1 (sI S) (q 84) (clo (sI S (q 84)) b o))) C ul_X6 rfl (by decide) 9 9 rfl (by decide) rfl u_fl_RX6_23 (hT.at0 80 7) (b := q 84) (hT.ptr 80 9 84) dX6_closeUp_18 (fun _ h => h) ?_
        refine KIload_n C dX6_closeUp_21 rfl 2 rfl ?_
        refine KIald (S := wI S (row1 (sI S) (q 84) (clo (sI S (q 84)) b o)))  (v := sI S (q 84) (o : Int)) C 40 (hT.at0 84 20) (hT.ln0 84 40) ⟨by omega, by omega⟩ (by omega) ((row1_same _ _ _ _).trans (clo_at _ _ _)) dX6_closeUp_22 ?_
        have rb4 := hR.b (q 84) (o : Int) (v := sI S (q 84) (o : Int)) ((row1_same _ _ _ _).trans (clo_at _ _ _))
        refine KIload_n C dX6_closeUp_23 rfl 1 rfl ?_
        refine KIcmp_le (tgt := 31) C dX6_closeUp_24 (by decide) ⟨by omega, by omega⟩ ⟨by omega, by omega⟩ (fun c24 => ?_) (fun c24 => ?_)
        · refine KIconst C dX6_closeUp_31 ?_
          refine KIsub C dX6_closeUp_32 ?_
          refine KIast (S := wI S (row1 (sI S) (q 84) (clo (sI S (q 84)) b o))) C 40 (hT.at0 84 20) (hT.ln0 84 40) ⟨by omega, by omega⟩ (by omega) ⟨by omega, by omega⟩ dX6_closeUp_33 ?_
          refine KSto (S2 := wI S (row1 (sI S) (q 84) (clo (sI S (q 84)) b (o + 1)))) (congrArg (wI S) ((up2_row1 _ _ _ _ _).trans (congrArg _ ((congrArg _ (show (sI S (q 84) (o : Int)) - 0 = (if b < sI S (q 84) (o : Int) then sI S (q 84) (o : Int) - 1 else sI S (q 84) (o : Int)) by split <;> omega)).trans (clo_step _ _ _))))) ?_
          refine KIinc (v := ((o + 1 : Nat) : Int)) (lv' := [(2, .int (iI ((o + 1 : Nat) : Int))), (0, .ref (q 80)), (1, .int (iI b))]) C dX6_closeUp_34 2 rfl (by omega) (by decide) rfl ?_
          refine KGoto (tgt := 2) C dX6_closeUp_37 (by decide) ?_
          refine KLv (lv' := [(0, .ref (q 80)), (1, .int (iI b)), (2, .int (iI ((o + 1 : Nat) : Int)))]) [1, 2, 0] rfl ?_
          exact ih2 (o + 1) (by omega) (by omega)
        · refine KIconst C dX6_closeUp_27 ?_
          refine KGoto (tgt := 32) C dX6_closeUp_28 (by decide) ?_
          refine KIsub C dX6_closeUp_32 ?_
          refine KIast (S := wI S (row1 (sI S) (q 84) (clo (sI S (q 84)) b o))) C 40 (hT.at0 84 20) (hT.ln0 84 40) ⟨by omega, by omega⟩ (by omega) ⟨by omega, by omega⟩ dX6_closeUp_33 ?_
          refine KSto (S2 := wI S (row1 (sI S) (q 84) (clo (sI S (q 84)) b (o + 1)))) (congrArg (wI S) ((up2_row1 _ _ _ _ _).trans (congrArg _ ((congrArg _ (show (sI S (q 84) (o : Int)) - 1 = (if b < sI S (q 84) (o : Int) then sI S (q 84) (o : Int) - 1 else sI S (q 84) (o : Int)) by split <;> omega)).trans (clo_step _ _ _))))) ?_
          refine KIinc (v := ((o + 1 : Nat) : Int)) (lv' := [(2, .int (iI ((o + 1 : Nat) : Int))), (0, .ref (q 80)), (1, .int (iI b))]) C dX6_closeUp_34 2 rfl (by omega) (by decide) rfl ?_
          refine KGoto (tgt := 2) C dX6_closeUp_37 (by decide) ?_
          refine KLv (lv' := [(0, .ref (q 80)), (1, .int (iI b)), (2, .int (iI ((o + 1 : Nat) : Int)))]) [1, 2, 0] rfl ?_
          exact ih2 (o + 1) (by omega) (by omega)
  exact loop2 _ 0 (Nat.lt_succ_self _) (by omega)
def P_X6_turnoverOf (S : Sto) (q : Nat → Nat) (x : Int) : Option Value → Sto → Prop := fun v u => v = some (.int (iI (ztv (sgM S q) x))) ∧ S = u
set_option maxRecDepth 100000 in
set_option maxHeartbeats 4000000 in
theorem ct_X6_turnoverOf (l : Launch) (g : GG) (S : Sto) (q : Nat → Nat) (x : Int) (hT : Top S q) (hWq : Wq (sgM S q)) (hCn : Cn S q) (hx : 0 ≤ x ∧ x < 20) : MetS l g yX6_turnoverOf cX6_turnoverOf 5 (some FieldType.int) 1 0 0 [.ref (q 80), .int (iI x)] S (P_X6_turnoverOf S q x) := by
  refine MetS.of (own := RX6) (lv := [(0, .ref (q 80)), (1, .int (iI x))]) (by decide) rfl (Nat.le_of_ble_eq_true rfl) rfl ?_
  intro pX eX sX mX argsX belowX methX cX C hin
  refine KRg (fun hR => ?_)
  obtain ⟨hc6, hc13⟩ := id hCn
  have ho40 := hWq.1.1
  refine KIconst C dX6_turnoverOf_0 ?_
  refine KIstore_n (lv' := [(2, .int (iI 0)), (0, .ref (q 80)), (1, .int (iI x))]) C dX6_turnoverOf_1 rfl (by decide) rfl ?_
  refine KIconst C dX6_turnoverOf_2 ?_
  refine KIstore_n (lv' := [(3, .int (iI 0)), (2, .int (iI 0)), (0, .ref (q 80)), (1, .int (iI x))]) C dX6_turnoverOf_3 rfl (by decide) rfl ?_
  refine KLv (lv' := [(0, .ref (q 80)), (1, .int (iI x)), (2, .int (iI 0)), (3, .int (iI 0))]) [2, 3, 1, 0] rfl ?_
  have loop4 : ∀ (nX : Nat) (o : Nat), zo (sgM S q) - o < nX → (o ≤ zo (sgM S q)) → Wk pX l eX (rmK 1 0 0) sX mX argsX belowX methX cX (MQ belowX (QcG g (P_X6_turnoverOf S q x)) argsX sX 0 0 (ge (gB g))) g 5 0 0 4 [(0, .ref (q 80)), (1, .int (iI x)), (2, .int (iI (tv (sI S (q 83)) (sI S (q 85)) (sI S (q 86)) (sI S (q 87)) x o))), (3, .int (iI (o : Int)))] [] S := by
    intro nX
    induction nX with
    | zero => intro o hm; exact absurd hm (Nat.not_lt_zero _)
    | succ nX ih4 =>
      intro o hm4 ho
      refine KRg (fun hR => ?_)
      refine KIload_n C dX6_turnoverOf_4 rfl 3 rfl ?_
      refine KAload_n C dX6_turnoverOf_5 rfl 0 rfl ?_
      refine KGetI C ul_X6 rfl (by decide) 6 6 rfl (by decide) rfl u_fl_RX6_66 (hT.at0 80 7) (v := ((zo (sgM S q) : Nat) : Int)) hc6 dX6_turnoverOf_6 (fun _ h => h) ?_
      have rb1 := hR.b (q 80) 6 (v := ((zo (sgM S q) : Nat) : Int)) hc6
      refine KIcmp_ge (tgt := 81) C dX6_turnoverOf_9 (by decide) ⟨by omega, by omega⟩ ⟨by omega, by omega⟩ (fun c9 => ?_) (fun c9 => ?_)
      · refine KIload_n C dX6_turnoverOf_81 rfl 2 rfl ?_
        refine KIret C rfl rfl (by
          refine ⟨?_, rfl⟩
          rw [show ztv (sgM S q) x = tv (sI S (q 83)) (sI S (q 85)) (sI S (q 86)) (sI S (q 87)) x (zo (sgM S q)) from rfl, show zo (sgM S q) = o by omega]) (by decide) (by decide) dX6_turnoverOf_82
      · obtain ⟨⟨hm1, hm2⟩, hm3⟩ := hWq.1.2 o (by omega)
        change 0 ≤ sI S (q 85) (o : Int) at hm1
        change sI S (q 85) (o : Int) ≤ 5 at hm2
        refine KIconst C dX6_turnoverOf_12 ?_
        refine KIstore (lv' := [(4, .int (iI 0)), (0, .ref (q 80)), (1, .int (iI x)), (2, .int (iI (tv (sI S (q 83)) (sI S (q 85)) (sI S (q 86)) (sI S (q 87)) x o))), (3, .int (iI (o : Int)))]) C dX6_turnoverOf_13 (by decide) rfl ?_
        refine KLvE (lv2 := [(4, .int (iI 0)), (0, .ref (q 80)), (1, .int (iI x)), (2, .int (iI (tv (sI S (q 83)) (sI S (q 85)) (sI S (q 86)) (sI S (q 87)) x o + (if sI S (q 83) (o : Int) = 2 then tvi (sI S (q 86)) (sI S (q 87)) x o 0 else 0)))), (3, .int (iI (o : Int)))]) (congrArg (fun zz : Int => ([(4, .int (iI 0)), (0, .ref (q 80)), (1, .int (iI x)), (2, .int (iI zz)), (3, .int (iI (o : Int)))] : List (Nat × Value))) (show (tv (sI S (q 83)) (sI S (q 85)) (sI S (q 86)) (sI S (q 87)) x o : Int) = tv (sI S (q 83)) (sI S (q 85)) (sI S (q 86)) (sI S (q 87)) x o + (if sI S (q 83) (o : Int) = 2 then tvi (sI S (q 86)) (sI S (q 87)) x o 0 else 0) from (by rw [show tvi (sI S (q 86)) (sI S (q 87)) x o 0 = 0 from rfl, ite_self, Int.add_zero]))) ?_
        refine KLv (lv' := [(0, .ref (q 80)), (1, .int (iI x)), (2, .int (iI (tv (sI S (q 83)) (sI S (q 85)) (sI S (q 86)) (sI S (q 87)) x o + (if sI S (q 83) (o : Int) = 2 then tvi (sI S (q 86)) (sI S (q 87)) x o 0 else 0)))), (3, .int (iI (o : Int))), (4, .int (iI 0))]) [1, 2, 3, 4, 0] rfl ?_
        have loop15 : ∀ (nX : Nat) (k : Nat), 5 - k < nX → ((k : Int) ≤ sI S (q 85) (o : Int)) → Wk pX l eX (rmK 1 0 0) sX mX argsX belowX methX cX (MQ belowX (QcG g (P_X6_turnoverOf S q x)) argsX sX 0 0 (ge (gB g))) g 5 0 0 15 [(0, .ref (q 80)), (1, .int (iI x)), (2, .int (iI (tv (sI S (q 83)) (sI S (q 85)) (sI S (q 86)) (sI S (q 87)) x o + (if sI S (q 83) (o : Int) = 2 then tvi (sI S (q 86)) (sI S (q 87)) x o k else 0)))), (3, .int (iI (o : Int))), (4, .int (iI (k : Int)))] [] S := by
          intro nX
          induction nX with
          | zero => intro k hm; exact absurd hm (Nat.not_lt_zero _)
          | succ nX ih15 =>
            intro k hm15 hk
            refine KRg (fun hR => ?_)
            refine KIload C dX6_turnoverOf_15 4 rfl ?_
            refine KAload_n C dX6_turnoverOf_17 rfl 0 rfl ?_
            refine KGetR C ul_X6 rfl (by decide) 10 10 rfl (by decide) rfl u_fl_RX6_26 (hT.at0 80 7) (b := q 85) (hT.ptr 80 10 85) dX6_turnoverOf_18 (fun _ h => h) ?_
            refine KIload_n C dX6_turnoverOf_21 rfl 3 rfl ?_
            refine KIald  (v := sI S (q 85) (o : Int)) C 40 (hT.at0 85 20) (hT.ln0 85 40) ⟨by omega, by omega⟩ (by omega) rfl dX6_turnoverOf_22 ?_
            have rb2 := hR.b (q 85) (o : Int) (v := sI S (q 85) (o : Int)) rfl
            refine KIcmp_ge (tgt := 75) C dX6_turnoverOf_23 (by decide) ⟨by omega, by omega⟩ ⟨by omega, by omega⟩ (fun c23 => ?_) (fun c23 => ?_)
            · refine KLvE (lv2 := [(0, .ref (q 80)), (1, .int (iI x)), (2, .int (iI (tv (sI S (q 83)) (sI S (q 85)) (sI S (q 86)) (sI S (q 87)) x (o + 1)))), (3, .int (iI (o : Int))), (4, .int (iI (k : Int)))]) (congrArg (fun zz : Int => ([(0, .ref (q 80)), (1, .int (iI x)), (2, .int (iI zz)), (3, .int (iI (o : Int))), (4, .int (iI (k : Int)))] : List (Nat × Value))) (show (tv (sI S (q 83)) (sI S (q 85)) (sI S (q 86)) (sI S (q 87)) x o + (if sI S (q 83) (o : Int) = 2 then tvi (sI S (q 86)) (sI S (q 87)) x o k else 0) : Int) = tv (sI S (q 83)) (sI S (q 85)) (sI S (q 86)) (sI S (q 87)) x (o + 1) from (by rw [show k = (sI S (q 85) (o : Int)).toNat by omega]; rfl))) ?_
              refine KIinc (v := ((o + 1 : Nat) : Int)) (lv' := [(3, .int (iI ((o + 1 : Nat) : Int))), (0, .ref (q 80)), (1, .int (iI x)), (2, .int (iI (tv (sI S (q 83)) (sI S (q 85)) (sI S (q 86)) (sI S (q 87)) x (o + 1)))), (4, .int (iI (k : Int)))]) C dX6_turnoverOf_75 3 rfl (by omega) (by decide) rfl ?_
              refine KGoto (tgt := 4) C dX6_turnoverOf_78 (by decide) ?_
              refine KLv (lv' := [(0, .ref (q 80)), (1, .int (iI x)), (2, .int (iI (tv (sI S (q 83)) (sI S (q 85)) (sI S (q 86)) (sI S (q 87)) x (o + 1)))), (3, .int (iI ((o + 1 : Nat) : Int)))]) [1, 2, 3, 0] rfl ?_
              exact ih4 (o + 1) (by omega) (by omega)
            · refine KIload_n C dX6_turnoverOf_26 rfl 2 rfl ?_
              refine KAload_n C dX6_turnoverOf_27 rfl 0 rfl ?_
              refine KGetR C ul_X6 rfl (by decide) 8 8 rfl (by decide) rfl u_fl_RX6_20 (hT.at0 80 7) (b := q 83) (hT.ptr 80 8 83) dX6_turnoverOf_28 (fun _ h => h) ?_
              refine KIload_n C dX6_turnoverOf_31 rfl 3 rfl ?_
              refine KIald  (v := sI S (q 83) (o : Int)) C 40 (hT.at0 83 20) (hT.ln0 83 40) ⟨by omega, by omega⟩ (by omega) rfl dX6_turnoverOf_32 ?_
              have rb3 := hR.b (q 83) (o : Int) (v := sI S (q 83) (o : Int)) rfl
              refine KIconst C dX6_turnoverOf_33 ?_
              refine KIcmp_ne (tgt := 66) C dX6_turnoverOf_34 (by decide) ⟨by omega, by omega⟩ ⟨by omega, by omega⟩ (fun c34 => ?_) (fun c34 => ?_)
              · refine KIconst C dX6_turnoverOf_66 ?_
                refine KIadd C dX6_turnoverOf_67 ?_
                refine KTop (congrArg iI (show (tv (sI S (q 83)) (sI S (q 85)) (sI S (q 86)) (sI S (q 87)) x o + (if sI S (q 83) (o : Int) = 2 then tvi (sI S (q 86)) (sI S (q 87)) x o k else 0)) + 0 = tv (sI S (q 83)) (sI S (q 85)) (sI S (q 86)) (sI S (q 87)) x o + (if sI S (q 83) (o : Int) = 2 then tvi (sI S (q 86)) (sI S (q 87)) x o (k + 1) else 0) from (by rw [show tvi (sI S (q 86)) (sI S (q 87)) x o (k + 1) = tvi (sI S (q 86)) (sI S (q 87)) x o k + (if sI S (q 86) ((5 * o + k : Nat) : Int) = x then sI S (q 87) ((5 * o + k : Nat) : Int) else 0) from rfl]; first | rw [if_neg (by assumption), if_neg (by assumption), Int.add_zero] | rw [if_pos (by assumption), if_pos (by assumption), if_neg (by assumption), Int.add_zero, Int.add_zero] | rw [if_pos (by assumption), if_pos (by assumption), if_pos (by assumption), Int.add_assoc]))) ?_
                refine KIstore_n (lv' := [(2, .int (iI (tv (sI S (q 83)) (sI S (q 85)) (sI S (q 86)) (sI S (q 87)) x o + (if sI S (q 83) (o : Int) = 2 then tvi (sI S (q 86)) (sI S (q 87)) x o (k + 1) else 0)))), (0, .ref (q 80)), (1, .int (iI x)), (3, .int (iI (o : Int))), (4, .int (iI (k : Int)))]) C dX6_turnoverOf_68 rfl (by decide) rfl ?_
                refine KIinc (v := ((k + 1 : Nat) : Int)) (lv' := [(4, .int (iI ((k + 1 : Nat) : Int))), (2, .int (iI (tv (sI S (q 83)) (sI S (q 85)) (sI S (q 86)) (sI S (q 87)) x o + (if sI S (q 83) (o : Int) = 2 then tvi (sI S (q 86)) (sI S (q 87)) x o (k + 1) else 0)))), (0, .ref (q 80)), (1, .int (iI x)), (3, .int (iI (o : Int)))]) C dX6_turnoverOf_69 4 rfl (by omega) (by decide) rfl ?_
                refine KGoto (tgt := 15) C dX6_turnoverOf_72 (by decide) ?_
                refine KLv (lv' := [(0, .ref (q 80)), (1, .int (iI x)), (2, .int (iI (tv (sI S (q 83)) (sI S (q 85)) (sI S (q 86)) (sI S (q 87)) x o + (if sI S (q 83) (o : Int) = 2 then tvi (sI S (q 86)) (sI S (q 87)) x o (k + 1) else 0)))), (3, .int (iI (o : Int))), (4, .int (iI ((k + 1 : Nat) : Int)))]) [2, 3, 1, 4, 0] rfl ?_
                exact ih15 (k + 1) (by omega) (by omega)
              · refine KAload_n C dX6_turnoverOf_37 rfl 0 rfl ?_
                refine KGetR C ul_X6 rfl (by decide) 11 11 rfl (by decide) rfl u_fl_RX6_29 (hT.at0 80 7) (b := q 86) (hT.ptr 80 11 86) dX6_turnoverOf_38 (fun _ h => h) ?_
                refine KIconst C dX6_turnoverOf_41 ?_
                refine KIload_n C dX6_turnoverOf_42 rfl 3 rfl ?_
                refine KImul C dX6_turnoverOf_43 ?_
                refine KIload C dX6_turnoverOf_44 4 rfl ?_
                refine KIadd C dX6_turnoverOf_46 ?_
                refine KTop (congrArg iI (show (5 * (o : Int)) + (k : Int) = ((5 * o + k : Nat) : Int) from (by omega))) ?_
                refine KIald  (v := sI S (q 86) ((5 * o + k : Nat) : Int)) C 200 (hT.at0 86 20) (hT.ln0 86 200) ⟨by omega, by omega⟩ (by omega) rfl dX6_turnoverOf_47 ?_
                have rb4 := hR.b (q 86) ((5 * o + k : Nat) : Int) (v := sI S (q 86) ((5 * o + k : Nat) : Int)) rfl
                refine KIload_n C dX6_turnoverOf_48 rfl 1 rfl ?_
                refine KIcmp_ne (tgt := 66) C dX6_turnoverOf_49 (by decide) ⟨by omega, by omega⟩ ⟨by omega, by omega⟩ (fun c49 => ?_) (fun c49 => ?_)
                · refine KIconst C dX6_turnoverOf_66 ?_
                  refine KIadd C dX6_turnoverOf_67 ?_
                  refine KTop (congrArg iI (show (tv (sI S (q 83)) (sI S (q 85)) (sI S (q 86)) (sI S (q 87)) x o + (if sI S (q 83) (o : Int) = 2 then tvi (sI S (q 86)) (sI S (q 87)) x o k else 0)) + 0 = tv (sI S (q 83)) (sI S (q 85)) (sI S (q 86)) (sI S (q 87)) x o + (if sI S (q 83) (o : Int) = 2 then tvi (sI S (q 86)) (sI S (q 87)) x o (k + 1) else 0) from (by rw [show tvi (sI S (q 86)) (sI S (q 87)) x o (k + 1) = tvi (sI S (q 86)) (sI S (q 87)) x o k + (if sI S (q 86) ((5 * o + k : Nat) : Int) = x then sI S (q 87) ((5 * o + k : Nat) : Int) else 0) from rfl]; first | rw [if_neg (by assumption), if_neg (by assumption), Int.add_zero] | rw [if_pos (by assumption), if_pos (by assumption), if_neg (by assumption), Int.add_zero, Int.add_zero] | rw [if_pos (by assumption), if_pos (by assumption), if_pos (by assumption), Int.add_assoc]))) ?_
                  refine KIstore_n (lv' := [(2, .int (iI (tv (sI S (q 83)) (sI S (q 85)) (sI S (q 86)) (sI S (q 87)) x o + (if sI S (q 83) (o : Int) = 2 then tvi (sI S (q 86)) (sI S (q 87)) x o (k + 1) else 0)))), (0, .ref (q 80)), (1, .int (iI x)), (3, .int (iI (o : Int))), (4, .int (iI (k : Int)))]) C dX6_turnoverOf_68 rfl (by decide) rfl ?_
                  refine KIinc (v := ((k + 1 : Nat) : Int)) (lv' := [(4, .int (iI ((k + 1 : Nat) : Int))), (2, .int (iI (tv (sI S (q 83)) (sI S (q 85)) (sI S (q 86)) (sI S (q 87)) x o + (if sI S (q 83) (o : Int) = 2 then tvi (sI S (q 86)) (sI S (q 87)) x o (k + 1) else 0)))), (0, .ref (q 80)), (1, .int (iI x)), (3, .int (iI (o : Int)))]) C dX6_turnoverOf_69 4 rfl (by omega) (by decide) rfl ?_
                  refine KGoto (tgt := 15) C dX6_turnoverOf_72 (by decide) ?_
                  refine KLv (lv' := [(0, .ref (q 80)), (1, .int (iI x)), (2, .int (iI (tv (sI S (q 83)) (sI S (q 85)) (sI S (q 86)) (sI S (q 87)) x o + (if sI S (q 83) (o : Int) = 2 then tvi (sI S (q 86)) (sI S (q 87)) x o (k + 1) else 0)))), (3, .int (iI (o : Int))), (4, .int (iI ((k + 1 : Nat) : Int)))]) [2, 3, 1, 4, 0] rfl ?_
                  exact ih15 (k + 1) (by omega) (by omega)
                · refine KAload_n C dX6_turnoverOf_52 rfl 0 rfl ?_
                  refine KGetR C ul_X6 rfl (by decide) 12 12 rfl (by decide) rfl u_fl_RX6_32 (hT.at0 80 7) (b := q 87) (hT.ptr 80 12 87) dX6_turnoverOf_53 (fun _ h => h) ?_
                  refine KIconst C dX6_turnoverOf_56 ?_
                  refine KIload_n C dX6_turnoverOf_57 rfl 3 rfl ?_
                  refine KImul C dX6_turnoverOf_58 ?_
                  refine KIload C dX6_turnoverOf_59 4 rfl ?_
                  refine KIadd C dX6_turnoverOf_61 ?_
                  refine KTop (congrArg iI (show (5 * (o : Int)) + (k : Int) = ((5 * o + k : Nat) : Int) from (by omega))) ?_
                  refine KIald  (v := sI S (q 87) ((5 * o + k : Nat) : Int)) C 200 (hT.at0 87 20) (hT.ln0 87 200) ⟨by omega, by omega⟩ (by omega) rfl dX6_turnoverOf_62 ?_
                  have rb5 := hR.b (q 87) ((5 * o + k : Nat) : Int) (v := sI S (q 87) ((5 * o + k : Nat) : Int)) rfl
                  refine KGoto (tgt := 67) C dX6_turnoverOf_63 (by decide) ?_
                  refine KIadd C dX6_turnoverOf_67 ?_
                  refine KTop (congrArg iI (show (tv (sI S (q 83)) (sI S (q 85)) (sI S (q 86)) (sI S (q 87)) x o + (if sI S (q 83) (o : Int) = 2 then tvi (sI S (q 86)) (sI S (q 87)) x o k else 0)) + (sI S (q 87) ((5 * o + k : Nat) : Int)) = tv (sI S (q 83)) (sI S (q 85)) (sI S (q 86)) (sI S (q 87)) x o + (if sI S (q 83) (o : Int) = 2 then tvi (sI S (q 86)) (sI S (q 87)) x o (k + 1) else 0) from (by rw [show tvi (sI S (q 86)) (sI S (q 87)) x o (k + 1) = tvi (sI S (q 86)) (sI S (q 87)) x o k + (if sI S (q 86) ((5 * o + k : Nat) : Int) = x then sI S (q 87) ((5 * o + k : Nat) : Int) else 0) from rfl]; first | rw [if_neg (by assumption), if_neg (by assumption), Int.add_zero] | rw [if_pos (by assumption), if_pos (by assumption), if_neg (by assumption), Int.add_zero, Int.add_zero] | rw [if_pos (by assumption), if_pos (by assumption), if_pos (by assumption), Int.add_assoc]))) ?_
                  refine KIstore_n (lv' := [(2, .int (iI (tv (sI S (q 83)) (sI S (q 85)) (sI S (q 86)) (sI S (q 87)) x o + (if sI S (q 83) (o : Int) = 2 then tvi (sI S (q 86)) (sI S (q 87)) x o (k + 1) else 0)))), (0, .ref (q 80)), (1, .int (iI x)), (3, .int (iI (o : Int))), (4, .int (iI (k : Int)))]) C dX6_turnoverOf_68 rfl (by decide) rfl ?_
                  refine KIinc (v := ((k + 1 : Nat) : Int)) (lv' := [(4, .int (iI ((k + 1 : Nat) : Int))), (2, .int (iI (tv (sI S (q 83)) (sI S (q 85)) (sI S (q 86)) (sI S (q 87)) x o + (if sI S (q 83) (o : Int) = 2 then tvi (sI S (q 86)) (sI S (q 87)) x o (k + 1) else 0)))), (0, .ref (q 80)), (1, .int (iI x)), (3, .int (iI (o : Int)))]) C dX6_turnoverOf_69 4 rfl (by omega) (by decide) rfl ?_
                  refine KGoto (tgt := 15) C dX6_turnoverOf_72 (by decide) ?_
                  refine KLv (lv' := [(0, .ref (q 80)), (1, .int (iI x)), (2, .int (iI (tv (sI S (q 83)) (sI S (q 85)) (sI S (q 86)) (sI S (q 87)) x o + (if sI S (q 83) (o : Int) = 2 then tvi (sI S (q 86)) (sI S (q 87)) x o (k + 1) else 0)))), (3, .int (iI (o : Int))), (4, .int (iI ((k + 1 : Nat) : Int)))]) [2, 3, 1, 4, 0] rfl ?_
                  exact ih15 (k + 1) (by omega) (by omega)
        exact loop15 _ 0 (Nat.lt_succ_self _) (by omega)
  exact loop4 _ 0 (Nat.lt_succ_self _) (by omega)
