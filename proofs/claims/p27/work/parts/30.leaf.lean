def P_J6_bitCount_0f7a4 (S : Sto) (m : Nat) : Option Value → Sto → Prop := fun v u => v = some (.int (iI ((cntb m 20 : Nat) : Int))) ∧ S = u
set_option maxRecDepth 100000 in
set_option maxHeartbeats 4000000 in
theorem ct_J6_bitCount_0f7a4 (l : Launch) (g : GG) (S : Sto) (m : Nat) (hm : m < 1048576) : MetS l g yJ6_bitCount_0f7a4 cJ6_bitCount_0f7a4 1 (some FieldType.int) 1 0 0 [.int (iI (m : Int))] S (P_J6_bitCount_0f7a4 S m) := by
  refine MetS.of (own := RJ6) (lv := [(0, .int (iI (m : Int)))]) (by decide) rfl (Nat.le_of_ble_eq_true rfl) rfl ?_
  intro pX eX sX mX argsX belowX methX cX C hin
  refine KRg (fun hR => ?_)
  obtain ⟨g1, g2, g3, g4, g5, g6, g7, g8⟩ := bs_b hm
  refine KIload_n C dJ6_bitCount_0f7a4_0 rfl 0 rfl ?_
  refine KIload_n C dJ6_bitCount_0f7a4_1 rfl 0 rfl ?_
  refine KIconst C dJ6_bitCount_0f7a4_2 ?_
  refine KIushr (v := iI ((m / 2 ^ 1 : Nat) : Int)) C dJ6_bitCount_0f7a4_3 (ib_ush (m := m) (p := 1) (by omega) (by omega)) ?_
  refine KLdcw (n := 1431655765) C u_ct_RJ6_265 (by decide) dJ6_bitCount_0f7a4_4 ?_
  refine KIand (v := iI ((m / 2 &&& 1431655765 : Nat) : Int)) C dJ6_bitCount_0f7a4_7 (ib_and (m / 2 ^ 1) 1431655765) ?_
  refine KIsub C dJ6_bitCount_0f7a4_8 ?_
  refine KTop (congrArg iI (show (m : Int) - ((m / 2 &&& 1431655765 : Nat) : Int) = ((bs1 m : Nat) : Int) from (by unfold bs1; omega))) ?_
  refine KIstore_n (lv' := [(0, .int (iI ((bs1 m : Nat) : Int)))]) C dJ6_bitCount_0f7a4_9 rfl (by decide) rfl ?_
  refine KIload_n C dJ6_bitCount_0f7a4_10 rfl 0 rfl ?_
  refine KLdcw (n := 858993459) C u_ct_RJ6_266 (by decide) dJ6_bitCount_0f7a4_11 ?_
  refine KIand (v := iI ((bs1 m &&& 858993459 : Nat) : Int)) C dJ6_bitCount_0f7a4_14 (ib_and (bs1 m) 858993459) ?_
  refine KIload_n C dJ6_bitCount_0f7a4_15 rfl 0 rfl ?_
  refine KIconst C dJ6_bitCount_0f7a4_16 ?_
  refine KIushr (v := iI ((bs1 m / 2 ^ 2 : Nat) : Int)) C dJ6_bitCount_0f7a4_17 (ib_ush (m := bs1 m) (p := 2) (by omega) (by omega)) ?_
  refine KLdcw (n := 858993459) C u_ct_RJ6_266 (by decide) dJ6_bitCount_0f7a4_18 ?_
  refine KIand (v := iI ((bs1 m / 4 &&& 858993459 : Nat) : Int)) C dJ6_bitCount_0f7a4_21 (ib_and (bs1 m / 2 ^ 2) 858993459) ?_
  refine KIadd C dJ6_bitCount_0f7a4_22 ?_
  refine KTop (congrArg iI (show ((bs1 m &&& 858993459 : Nat) : Int) + ((bs1 m / 4 &&& 858993459 : Nat) : Int) = ((bs2 (bs1 m) : Nat) : Int) from (Int.natCast_add _ _).symm)) ?_
  refine KIstore_n (lv' := [(0, .int (iI ((bs2 (bs1 m) : Nat) : Int)))]) C dJ6_bitCount_0f7a4_23 rfl (by decide) rfl ?_
  refine KIload_n C dJ6_bitCount_0f7a4_24 rfl 0 rfl ?_
  refine KIload_n C dJ6_bitCount_0f7a4_25 rfl 0 rfl ?_
  refine KIconst C dJ6_bitCount_0f7a4_26 ?_
  refine KIushr (v := iI ((bs2 (bs1 m) / 2 ^ 4 : Nat) : Int)) C dJ6_bitCount_0f7a4_27 (ib_ush (m := bs2 (bs1 m)) (p := 4) (by omega) (by omega)) ?_
  refine KIadd C dJ6_bitCount_0f7a4_28 ?_
  refine KTop (congrArg iI (show ((bs2 (bs1 m) : Nat) : Int) + ((bs2 (bs1 m) / 2 ^ 4 : Nat) : Int) = ((bs2 (bs1 m) + bs2 (bs1 m) / 16 : Nat) : Int) from (Int.natCast_add _ _).symm)) ?_
  refine KLdcw (n := 252645135) C u_ct_RJ6_267 (by decide) dJ6_bitCount_0f7a4_29 ?_
  refine KIand (v := iI ((bs3 (bs2 (bs1 m)) : Nat) : Int)) C dJ6_bitCount_0f7a4_32 (ib_and (bs2 (bs1 m) + bs2 (bs1 m) / 16) 252645135) ?_
  refine KIstore_n (lv' := [(0, .int (iI ((bs3 (bs2 (bs1 m)) : Nat) : Int)))]) C dJ6_bitCount_0f7a4_33 rfl (by decide) rfl ?_
  refine KIload_n C dJ6_bitCount_0f7a4_34 rfl 0 rfl ?_
  refine KIload_n C dJ6_bitCount_0f7a4_35 rfl 0 rfl ?_
  refine KBipush C dJ6_bitCount_0f7a4_36 (by decide) ?_
  refine KIushr (v := iI ((bs3 (bs2 (bs1 m)) / 2 ^ 8 : Nat) : Int)) C dJ6_bitCount_0f7a4_38 (ib_ush (m := bs3 (bs2 (bs1 m))) (p := 8) (by omega) (by omega)) ?_
  refine KIadd C dJ6_bitCount_0f7a4_39 ?_
  refine KTop (congrArg iI (show ((bs3 (bs2 (bs1 m)) : Nat) : Int) + ((bs3 (bs2 (bs1 m)) / 2 ^ 8 : Nat) : Int) = ((bs4 (bs3 (bs2 (bs1 m))) : Nat) : Int) from (Int.natCast_add _ _).symm)) ?_
  refine KIstore_n (lv' := [(0, .int (iI ((bs4 (bs3 (bs2 (bs1 m))) : Nat) : Int)))]) C dJ6_bitCount_0f7a4_40 rfl (by decide) rfl ?_
  refine KIload_n C dJ6_bitCount_0f7a4_41 rfl 0 rfl ?_
  refine KIload_n C dJ6_bitCount_0f7a4_42 rfl 0 rfl ?_
  refine KBipush C dJ6_bitCount_0f7a4_43 (by decide) ?_
  refine KIushr (v := iI ((bs4 (bs3 (bs2 (bs1 m))) / 2 ^ 16 : Nat) : Int)) C dJ6_bitCount_0f7a4_45 (ib_ush (m := bs4 (bs3 (bs2 (bs1 m)))) (p := 16) (by omega) (by omega)) ?_
  refine KIadd C dJ6_bitCount_0f7a4_46 ?_
  refine KTop (congrArg iI (show ((bs4 (bs3 (bs2 (bs1 m))) : Nat) : Int) + ((bs4 (bs3 (bs2 (bs1 m))) / 2 ^ 16 : Nat) : Int) = ((bs5 (bs4 (bs3 (bs2 (bs1 m)))) : Nat) : Int) from (Int.natCast_add _ _).symm)) ?_
  refine KIstore_n (lv' := [(0, .int (iI ((bs5 (bs4 (bs3 (bs2 (bs1 m)))) : Nat) : Int)))]) C dJ6_bitCount_0f7a4_47 rfl (by decide) rfl ?_
  refine KIload_n C dJ6_bitCount_0f7a4_48 rfl 0 rfl ?_
  refine KBipush C dJ6_bitCount_0f7a4_49 (by decide) ?_
  refine KIand (v := iI ((cntb m 20 : Nat) : Int)) C dJ6_bitCount_0f7a4_51 ((ib_and (bs5 (bs4 (bs3 (bs2 (bs1 m))))) 63).trans (congrArg (fun z9 : Nat => iI (z9 : Int)) (bc_20 hm))) ?_
  refine KIret C rfl rfl (by
    exact ⟨rfl, rfl⟩) (by decide) (by decide) dJ6_bitCount_0f7a4_52
def P_X1_countLines (S : Sto) (a : Nat) (m : Nat) : Option Value → Sto → Prop := fun v u => v = some (.int (iI ((cntb m 20 : Nat) : Int))) ∧ S = u
set_option maxRecDepth 100000 in
set_option maxHeartbeats 4000000 in
theorem ct_X1_countLines (l : Launch) (g : GG) (S : Sto) (a : Nat) (ha : At0 S a 2) (m : Nat) (hm2 : sI S a 2 = (m : Int)) (hm : m < 1048576) : MetS l g yX1_countLines cX1_countLines 1 (some FieldType.int) 2 0 0 [.ref a] S (P_X1_countLines S a m) := by
  refine MetS.of (own := RX1) (lv := [(0, .ref a)]) (by decide) rfl (Nat.le_of_ble_eq_true rfl) rfl ?_
  intro pX eX sX mX argsX belowX methX cX C hin
  refine KRg (fun hR => ?_)
  refine KAload_n C dX1_countLines_0 rfl 0 rfl ?_
  refine KGetI C ul_X1 rfl (by decide) 2 2 rfl (by decide) rfl u_fl_RX1_22 ha (v := (m : Int)) hm2 dX1_countLines_1 (fun _ h => h) ?_
  have rb1 := hR.b a 2 (v := (m : Int)) hm2
  refine KCallS2 (As := [.int (iI (m : Int))]) (st := []) C (ct_J6_bitCount_0f7a4 l g S m (by omega)) u_ml_RX1_29 u_st_yJ6_bitCount_0f7a4 u_in_RJ6 u_co_yJ6_bitCount_0f7a4 hd_yJ6_bitCount_0f7a4.2 ⟨Nat.le_of_ble_eq_true rfl, Nat.le_of_ble_eq_true rfl⟩ ⟨Nat.le_of_ble_eq_true rfl, Nat.le_of_ble_eq_true rfl⟩ (Nat.le_of_ble_eq_true rfl) dX1_countLines_4 rfl (fun v4 u4 hp4 => ?_)
  obtain ⟨rfl, rfl⟩ := hp4
  refine KSt (st2 := [.int (iI ((cntb m 20 : Nat) : Int))]) rfl ?_
  refine KIret C rfl rfl (by
    exact ⟨rfl, rfl⟩) (by decide) (by decide) dX1_countLines_7
def P_X1_asksFor (S : Sto) (a : Nat) (p : Nat) (m : Nat) : Option Value → Sto → Prop := fun v u => ((m.testBit p = true) ∧ v = some (.int (iI 1)) ∨ ¬(m.testBit p = true) ∧ v = some (.int (iI 0))) ∧ S = u
set_option maxRecDepth 100000 in
set_option maxHeartbeats 4000000 in
theorem ct_X1_asksFor (l : Launch) (g : GG) (S : Sto) (a : Nat) (ha : At0 S a 2) (p : Nat) (m : Nat) (hm2 : sI S a 2 = (m : Int)) (hm : m < 1048576) (hp : p < 20) : MetS l g yX1_asksFor cX1_asksFor 2 (some FieldType.boolean) 2 0 0 [.ref a, .int (iI (p : Int))] S (P_X1_asksFor S a p m) := by
  refine MetS.of (own := RX1) (lv := [(0, .ref a), (1, .int (iI (p : Int)))]) (by decide) rfl (Nat.le_of_ble_eq_true rfl) rfl ?_
  intro pX eX sX mX argsX belowX methX cX C hin
  refine KRg (fun hR => ?_)
  refine KAload_n C dX1_asksFor_0 rfl 0 rfl ?_
  refine KGetI C ul_X1 rfl (by decide) 2 2 rfl (by decide) rfl u_fl_RX1_22 ha (v := (m : Int)) hm2 dX1_asksFor_1 (fun _ h => h) ?_
  have rb1 := hR.b a 2 (v := (m : Int)) hm2
  refine KIload_n C dX1_asksFor_4 rfl 1 rfl ?_
  refine KCallSN (As := [.int (iI (m : Int)), .int (iI (p : Int))]) (st := []) C (ct_X5_isIn l g S m p (by omega) (by omega)) n_mn_RX1_25 u_st_yX5_isIn u_in_RX5 u_co_yX5_isIn hd_yX5_isIn.2 ⟨Nat.le_of_ble_eq_true rfl, Nat.le_of_ble_eq_true rfl⟩ ⟨Nat.le_of_ble_eq_true rfl, Nat.le_of_ble_eq_true rfl⟩ (Nat.le_of_ble_eq_true rfl) dX1_asksFor_5 rfl (fun v5 u5 hp5 => ?_)
  obtain ⟨⟨b5, rfl⟩ | ⟨b5, rfl⟩, rfl⟩ := hp5
  · refine KSt (st2 := [.int (iI 1)]) rfl ?_
    refine KIret C rfl rfl (by
      first | exact ⟨Or.inl ⟨b5, rfl⟩, rfl⟩ | exact ⟨Or.inr ⟨b5, rfl⟩, rfl⟩) (by decide) (by decide) dX1_asksFor_8
  · refine KSt (st2 := [.int (iI 0)]) rfl ?_
    refine KIret C rfl rfl (by
      first | exact ⟨Or.inl ⟨b5, rfl⟩, rfl⟩ | exact ⟨Or.inr ⟨b5, rfl⟩, rfl⟩) (by decide) (by decide) dX1_asksFor_8
def P_X1_addLine (S : Sto) (a : Nat) (p : Nat) (y : Int) (m : Nat) (b : Nat) : Option Value → Sto → Prop := fun v u => v = none ∧ u = uI (uI S a 2 ((m ||| 2 ^ p : Nat) : Int)) b (p : Int) y
set_option maxRecDepth 100000 in
set_option maxHeartbeats 4000000 in
theorem ct_X1_addLine (l : Launch) (g : GG) (S : Sto) (a : Nat) (ha : At0 S a 2) (p : Nat) (y : Int) (m : Nat) (hm2 : sI S a 2 = (m : Int)) (hm : m < 1048576) (b : Nat) (hab : sP S a 1 = some b) (hb : At0 S b 20 ∧ sN S b = 20) (hp : p < 20) (hy : inR y) : MetS l g yX1_addLine cX1_addLine 3 (none) 1 0 0 [.ref a, .int (iI (p : Int)), .int (iI y)] S (P_X1_addLine S a p y m b) := by
  refine MetS.of (own := RX1) (lv := [(0, .ref a), (1, .int (iI (p : Int))), (2, .int (iI y))]) (by decide) rfl (Nat.le_of_ble_eq_true rfl) rfl ?_
  intro pX eX sX mX argsX belowX methX cX C hin
  refine KRg (fun hR => ?_)
  obtain ⟨hy1, hy2⟩ := hy
  refine KAload_n C dX1_addLine_0 rfl 0 rfl ?_
  refine KDup C dX1_addLine_1 rfl ?_
  refine KGetI C ul_X1 rfl (by decide) 2 2 rfl (by decide) rfl u_fl_RX1_22 ha (v := (m : Int)) hm2 dX1_addLine_2 (fun _ h => h) ?_
  have rb1 := hR.b a 2 (v := (m : Int)) hm2
  refine KIconst C dX1_addLine_5 ?_
  refine KIload_n C dX1_addLine_6 rfl 1 rfl ?_
  refine KIshl (v := iI ((2 ^ p : Nat) : Int)) C dX1_addLine_7 (ib_shl (by omega)) ?_
  refine KIor (v := iI ((m ||| 2 ^ p : Nat) : Int)) C dX1_addLine_8 (ib_or m (2 ^ p)) ?_
  have hor : m ||| 2 ^ p < 2 ^ 20 := Nat.or_lt_two_pow hm (Nat.pow_lt_pow_right (by omega) hp)
  refine KPutI (ty := .int) (v := ((m ||| 2 ^ p : Nat) : Int)) C ul_X1 rfl (by decide) 2 2 rfl (by decide) rfl u_fl_RX1_22 tyX1 tyX1_ok nmX1 ha ⟨by omega, by omega⟩ (by decide +kernel) rfl rfl rfl dX1_addLine_9 (fun _ h => h) ?_
  refine KAload_n C dX1_addLine_12 rfl 0 rfl ?_
  refine KGetR (S := uI S a 2 ((m ||| 2 ^ p : Nat) : Int)) C ul_X1 rfl (by decide) 1 1 rfl (by decide) rfl u_fl_RX1_9 ha (b := b) hab dX1_addLine_13 (fun _ h => h) ?_
  refine KIload_n C dX1_addLine_16 rfl 1 rfl ?_
  refine KIload_n C dX1_addLine_17 rfl 2 rfl ?_
  refine KIast (S := uI S a 2 ((m ||| 2 ^ p : Nat) : Int)) C 20 hb.1 hb.2 ⟨by omega, by omega⟩ (by omega) ⟨by omega, by omega⟩ dX1_addLine_18 ?_
  refine KVret C rfl (by
    exact ⟨rfl, rfl⟩) (by decide) (by decide) dX1_addLine_19
def P_X1_isTakenAt (S : Sto) (a : Nat) (x : Int) : Option Value → Sto → Prop := fun v u => ((sI S a 3 = 0 ∧ sI S a 2 ≠ 0 ∧ sI S a 0 ≤ x) ∧ v = some (.int (iI 1)) ∨ ¬(sI S a 3 = 0 ∧ sI S a 2 ≠ 0 ∧ sI S a 0 ≤ x) ∧ v = some (.int (iI 0))) ∧ S = u
set_option maxRecDepth 100000 in
set_option maxHeartbeats 4000000 in
theorem ct_X1_isTakenAt (l : Launch) (g : GG) (S : Sto) (a : Nat) (ha : At0 S a 2) (x : Int) (hx : inR x) : MetS l g yX1_isTakenAt cX1_isTakenAt 2 (some FieldType.boolean) 1 0 0 [.ref a, .int (iI x)] S (P_X1_isTakenAt S a x) := by
  refine MetS.of (own := RX1) (lv := [(0, .ref a), (1, .int (iI x))]) (by decide) rfl (Nat.le_of_ble_eq_true rfl) rfl ?_
  intro pX eX sX mX argsX belowX methX cX C hin
  refine KRg (fun hR => ?_)
  obtain ⟨hx1, hx2⟩ := hx
  refine KAload_n C dX1_isTakenAt_0 rfl 0 rfl ?_
  refine KGetI C ul_X1 rfl (by decide) 3 3 rfl (by decide) rfl u_fl_RX1_15 ha (v := sI S a 3) rfl dX1_isTakenAt_1 (fun _ h => h) ?_
  have rb1 := hR.b a 3 (v := sI S a 3) rfl
  refine KIf_ne (tgt := 26) C dX1_isTakenAt_4 (by decide) ⟨by omega, by omega⟩ (fun c4 => ?_) (fun c4 => ?_)
  · refine KIconst C dX1_isTakenAt_26 ?_
    refine KIret C rfl rfl (by
      first | exact ⟨Or.inl ⟨by omega, rfl⟩, rfl⟩ | exact ⟨Or.inr ⟨by omega, rfl⟩, rfl⟩) (by decide) (by decide) dX1_isTakenAt_27
  · refine KAload_n C dX1_isTakenAt_7 rfl 0 rfl ?_
    refine KGetI C ul_X1 rfl (by decide) 2 2 rfl (by decide) rfl u_fl_RX1_22 ha (v := sI S a 2) rfl dX1_isTakenAt_8 (fun _ h => h) ?_
    have rb2 := hR.b a 2 (v := sI S a 2) rfl
    refine KIf_eq (tgt := 26) C dX1_isTakenAt_11 (by decide) ⟨by omega, by omega⟩ (fun c11 => ?_) (fun c11 => ?_)
    · refine KIconst C dX1_isTakenAt_26 ?_
      refine KIret C rfl rfl (by
        first | exact ⟨Or.inl ⟨by omega, rfl⟩, rfl⟩ | exact ⟨Or.inr ⟨by omega, rfl⟩, rfl⟩) (by decide) (by decide) dX1_isTakenAt_27
    · refine KAload_n C dX1_isTakenAt_14 rfl 0 rfl ?_
      refine KGetI C ul_X1 rfl (by decide) 0 0 rfl (by decide) rfl u_fl_RX1_19 ha (v := sI S a 0) rfl dX1_isTakenAt_15 (fun _ h => h) ?_
      have rb3 := hR.b a 0 (v := sI S a 0) rfl
      refine KIload_n C dX1_isTakenAt_18 rfl 1 rfl ?_
      refine KIcmp_gt (tgt := 26) C dX1_isTakenAt_19 (by decide) ⟨by omega, by omega⟩ ⟨by omega, by omega⟩ (fun c19 => ?_) (fun c19 => ?_)
      · refine KIconst C dX1_isTakenAt_26 ?_
        refine KIret C rfl rfl (by
          first | exact ⟨Or.inl ⟨by omega, rfl⟩, rfl⟩ | exact ⟨Or.inr ⟨by omega, rfl⟩, rfl⟩) (by decide) (by decide) dX1_isTakenAt_27
      · refine KIconst C dX1_isTakenAt_22 ?_
        refine KGoto (tgt := 27) C dX1_isTakenAt_23 (by decide) ?_
        refine KIret C rfl rfl (by
          first | exact ⟨Or.inl ⟨by omega, rfl⟩, rfl⟩ | exact ⟨Or.inr ⟨by omega, rfl⟩, rfl⟩) (by decide) (by decide) dX1_isTakenAt_27
def P_X0_holds (S : Sto) (a : Nat) (o : Nat) (M : Nat) : Option Value → Sto → Prop := fun v u => ((M.testBit o = true) ∧ v = some (.int (iI 1)) ∨ ¬(M.testBit o = true) ∧ v = some (.int (iI 0))) ∧ S = u
set_option maxRecDepth 100000 in
set_option maxHeartbeats 4000000 in
theorem ct_X0_holds (l : Launch) (g : GG) (S : Sto) (a : Nat) (ha : At0 S a 1) (o : Nat) (M : Nat) (hM1 : sJ S a 1 = (M : Int)) (hM : M < 2 ^ 40) (ho : o < 40) : MetS l g yX0_holds cX0_holds 2 (some FieldType.boolean) 1 0 0 [.ref a, .int (iI (o : Int))] S (P_X0_holds S a o M) := by
  refine MetS.of (own := RX0) (lv := [(0, .ref a), (1, .int (iI (o : Int)))]) (by decide) rfl (Nat.le_of_ble_eq_true rfl) rfl ?_
  intro pX eX sX mX argsX belowX methX cX C hin
  refine KRg (fun hR => ?_)
  refine KAload_n C dX0_holds_0 rfl 0 rfl ?_
  refine KGetJ C ul_X0 rfl (by decide) 1 1 rfl (by decide) rfl u_fl_RX0_19 ha (v := (M : Int)) hM1 dX0_holds_1 (fun _ h => h) ?_
  refine KIload_n C dX0_holds_4 rfl 1 rfl ?_
  refine KLshr (v := lI ((M / 2 ^ o : Nat) : Int)) C dX0_holds_5 (lb_shr hM (by omega)) ?_
  refine KLconst (v := lI 1) C dX0_holds_6 (by decide) ?_
  refine KLand (v := lI ((M / 2 ^ o % 2 : Nat) : Int)) C dX0_holds_7 (lb_bit _) ?_
  refine KLconst (v := lI 0) C dX0_holds_8 (by decide) ?_
  refine KLcmp C dX0_holds_9 ?_
  refine KTop (show lg_cmp (lI ((M / 2 ^ o % 2 : Nat) : Int)) (lI 0) = iI ((M / 2 ^ o % 2 : Nat) : Int) from (lb_cmp (by omega))) ?_
  refine KIf_eq (tgt := 17) C dX0_holds_10 (by decide) ⟨by omega, by omega⟩ (fun c10 => ?_) (fun c10 => ?_)
  · refine KIconst C dX0_holds_17 ?_
    refine KIret C rfl rfl (by
      first | exact ⟨Or.inl ⟨tb_1 (by omega), rfl⟩, rfl⟩ | exact ⟨Or.inr ⟨(by rw [tb_0 (by omega)]; exact Bool.false_ne_true), rfl⟩, rfl⟩) (by decide) (by decide) dX0_holds_18
  · refine KIconst C dX0_holds_13 ?_
    refine KGoto (tgt := 18) C dX0_holds_14 (by decide) ?_
    refine KIret C rfl rfl (by
      first | exact ⟨Or.inl ⟨tb_1 (by omega), rfl⟩, rfl⟩ | exact ⟨Or.inr ⟨(by rw [tb_0 (by omega)]; exact Bool.false_ne_true), rfl⟩, rfl⟩) (by decide) (by decide) dX0_holds_18
def P_X0_comesInto (S : Sto) (a : Nat) (x : Int) (e : Nat) (n : Nat) : Option Value → Sto → Prop := fun v u => ((∃ j : Nat, j < n ∧ sI S e (j : Int) / 100 = x) ∧ v = some (.int (iI 1)) ∨ ¬(∃ j : Nat, j < n ∧ sI S e (j : Int) / 100 = x) ∧ v = some (.int (iI 0))) ∧ S = u
set_option maxRecDepth 100000 in
set_option maxHeartbeats 4000000 in
theorem ct_X0_comesInto (l : Launch) (g : GG) (S : Sto) (a : Nat) (ha : At0 S a 1) (x : Int) (e : Nat) (n : Nat) (hae : sP S a 5 = some e) (he : At0 S e 20 ∧ sN S e = n) (hn : n ≤ 20) (hp : ∀ j : Nat, j < n → 0 ≤ sI S e (j : Int)) (hx : inR x) : MetS l g yX0_comesInto cX0_comesInto 3 (some FieldType.boolean) 1 0 0 [.ref a, .int (iI x)] S (P_X0_comesInto S a x e n) := by
  refine MetS.of (own := RX0) (lv := [(0, .ref a), (1, .int (iI x))]) (by decide) rfl (Nat.le_of_ble_eq_true rfl) rfl ?_
  intro pX eX sX mX argsX belowX methX cX C hin
  refine KRg (fun hR => ?_)
  obtain ⟨hx1, hx2⟩ := hx
  refine KIconst C dX0_comesInto_0 ?_
  refine KIstore_n (lv' := [(2, .int (iI 0)), (0, .ref a), (1, .int (iI x))]) C dX0_comesInto_1 rfl (by decide) rfl ?_
  refine KLv (lv' := [(0, .ref a), (1, .int (iI x)), (2, .int (iI 0))]) [1, 2, 0] rfl ?_
  have loop2 : ∀ (nX : Nat) (j : Nat), n - j < nX → (j ≤ n) → (∀ i : Nat, i < j → sI S e (i : Int) / 100 ≠ x) → Wk pX l eX (rmK 1 0 0) sX mX argsX belowX methX cX (MQ belowX (QcG g (P_X0_comesInto S a x e n)) argsX sX 0 0 (ge (gB g))) g 3 0 0 2 [(0, .ref a), (1, .int (iI x)), (2, .int (iI (j : Int)))] [] S := by
    intro nX
    induction nX with
    | zero => intro j hm; exact absurd hm (Nat.not_lt_zero _)
    | succ nX ih2 =>
      intro j hm2 hj hno
      refine KRg (fun hR => ?_)
      refine KIload_n C dX0_comesInto_2 rfl 2 rfl ?_
      refine KAload_n C dX0_comesInto_3 rfl 0 rfl ?_
      refine KGetR C ul_X0 rfl (by decide) 5 5 rfl (by decide) rfl u_fl_RX0_9 ha (b := e) hae dX0_comesInto_4 (fun _ h => h) ?_
      refine KAlenI C n he.1 he.2 dX0_comesInto_7 ?_
      refine KIcmp_ge (tgt := 32) C dX0_comesInto_8 (by decide) ⟨by omega, by omega⟩ ⟨by omega, by omega⟩ (fun c8 => ?_) (fun c8 => ?_)
      · refine KIconst C dX0_comesInto_32 ?_
        refine KIret C rfl rfl (by
          exact ⟨Or.inr ⟨fun ⟨i, h1, h2⟩ => hno i (by omega) h2, rfl⟩, rfl⟩) (by decide) (by decide) dX0_comesInto_33
      · refine KAload_n C dX0_comesInto_11 rfl 0 rfl ?_
        refine KGetR C ul_X0 rfl (by decide) 5 5 rfl (by decide) rfl u_fl_RX0_9 ha (b := e) hae dX0_comesInto_12 (fun _ h => h) ?_
        refine KIload_n C dX0_comesInto_15 rfl 2 rfl ?_
        refine KIald  (v := sI S e (j : Int)) C n he.1 he.2 ⟨by omega, by omega⟩ (by omega) rfl dX0_comesInto_16 ?_
        have rb1 := hR.b e (j : Int) (v := sI S e (j : Int)) rfl
        have hpj := hp j (by omega)
        refine KBipush C dX0_comesInto_17 (by decide) ?_
        refine KIdiv (z := (sI S e (j : Int)) / 100) C dX0_comesInto_19 ⟨by omega, by omega⟩ ⟨by omega, by omega⟩ (by omega) (tdiv_pos (by omega)) ?_
        refine KIload_n C dX0_comesInto_20 rfl 1 rfl ?_
        refine KIcmp_ne (tgt := 26) C dX0_comesInto_21 (by decide) ⟨by omega, by omega⟩ ⟨by omega, by omega⟩ (fun c21 => ?_) (fun c21 => ?_)
        · refine KIinc (v := ((j + 1 : Nat) : Int)) (lv' := [(2, .int (iI ((j + 1 : Nat) : Int))), (0, .ref a), (1, .int (iI x))]) C dX0_comesInto_26 2 rfl (by omega) (by decide) rfl ?_
          refine KGoto (tgt := 2) C dX0_comesInto_29 (by decide) ?_
          refine KLv (lv' := [(0, .ref a), (1, .int (iI x)), (2, .int (iI ((j + 1 : Nat) : Int)))]) [1, 2, 0] rfl ?_
          exact ih2 (j + 1) (by omega) (by omega) (fun i h => if e9 : i = j then e9 ▸ c21 else hno i (by omega))
        · refine KIconst C dX0_comesInto_24 ?_
          refine KIret C rfl rfl (by
            exact ⟨Or.inl ⟨⟨j, by omega, c21⟩, rfl⟩, rfl⟩) (by decide) (by decide) dX0_comesInto_25
  exact loop2 _ 0 (Nat.lt_succ_self _) (by omega) (fun i h => absurd h (Nat.not_lt_zero _))
def P_X0_absorb (S : Sto) (a : Nat) (b : Nat) (x : Int) (M : Nat) (M2 : Nat) (m : Nat) (m2 : Nat) : Option Value → Sto → Prop := fun v u => v = none ∧ u = uI (uI (uI (uJ S a 1 ((M ||| M2 : Nat) : Int)) a 2 ((m ||| m2 : Nat) : Int)) a 3 (sI S a 3 + sI S b 3)) a 4 (sI S a 4 + (sI S b 4 - x))
set_option maxRecDepth 100000 in
set_option maxHeartbeats 4000000 in
theorem ct_X0_absorb (l : Launch) (g : GG) (S : Sto) (a : Nat) (ha : At0 S a 1) (b : Nat) (x : Int) (hb : At0 S b 1) (hne : b ≠ a) (M : Nat) (M2 : Nat) (hM1 : sJ S a 1 = (M : Int) ∧ sJ S b 1 = (M2 : Int)) (m : Nat) (m2 : Nat) (hm1 : sI S a 2 = (m : Int) ∧ sI S b 2 = (m2 : Int) ∧ m < 1048576 ∧ m2 < 1048576) (hlb : (0 ≤ sI S a 3 ∧ sI S a 3 ≤ 1000) ∧ (0 ≤ sI S b 3 ∧ sI S b 3 ≤ 1000) ∧ (0 ≤ sI S a 4 ∧ sI S a 4 ≤ 10000) ∧ (0 ≤ sI S b 4 ∧ sI S b 4 ≤ 10000) ∧ (0 ≤ x ∧ x ≤ 10000)) : MetS l g yX0_absorb cX0_absorb 3 (none) 1 0 0 [.ref a, .ref b, .int (iI x)] S (P_X0_absorb S a b x M M2 m m2) := by
  refine MetS.of (own := RX0) (lv := [(0, .ref a), (1, .ref b), (2, .int (iI x))]) (by decide) rfl (Nat.le_of_ble_eq_true rfl) rfl ?_
  intro pX eX sX mX argsX belowX methX cX C hin
  refine KRg (fun hR => ?_)
  obtain ⟨hM1, hM2⟩ := hM1
  obtain ⟨hm1, hm2, hm3, hm4⟩ := hm1
  obtain ⟨hl1, hl2, hl3, hl4, hl5⟩ := hlb
  have hor : m ||| m2 < 2 ^ 20 := Nat.or_lt_two_pow hm3 hm4
  refine KAload_n C dX0_absorb_0 rfl 0 rfl ?_
  refine KDup C dX0_absorb_1 rfl ?_
  refine KGetJ C ul_X0 rfl (by decide) 1 1 rfl (by decide) rfl u_fl_RX0_19 ha (v := (M : Int)) hM1 dX0_absorb_2 (fun _ h => h) ?_
  refine KAload_n C dX0_absorb_5 rfl 1 rfl ?_
  refine KGetJ C ul_X0 rfl (by decide) 1 1 rfl (by decide) rfl u_fl_RX0_19 hb (v := (M2 : Int)) hM2 dX0_absorb_6 (fun _ h => h) ?_
  refine KLor (v := lI ((M ||| M2 : Nat) : Int)) C dX0_absorb_9 (lb_or M M2) ?_
  refine KPutJ (ty := .long) C ul_X0 rfl (by decide) 1 1 rfl (by decide) rfl u_fl_RX0_19 tyX0 tyX0_ok nmX0 ha (by decide +kernel) rfl rfl rfl dX0_absorb_10 (fun _ h => h) ?_
  refine KAload_n C dX0_absorb_13 rfl 0 rfl ?_
  refine KDup C dX0_absorb_14 rfl ?_
  refine KGetI (S := uJ S a 1 ((M ||| M2 : Nat) : Int)) C ul_X0 rfl (by decide) 2 2 rfl (by decide) rfl u_fl_RX0_28 ha (v := (m : Int)) hm1 dX0_absorb_15 (fun _ h => h) ?_
  refine KAload_n C dX0_absorb_18 rfl 1 rfl ?_
  refine KGetI (S := uJ S a 1 ((M ||| M2 : Nat) : Int)) C ul_X0 rfl (by decide) 2 2 rfl (by decide) rfl u_fl_RX0_28 hb (v := (m2 : Int)) hm2 dX0_absorb_19 (fun _ h => h) ?_
  refine KIor (v := iI ((m ||| m2 : Nat) : Int)) C dX0_absorb_22 (ib_or m m2) ?_
  refine KPutI (S := uJ S a 1 ((M ||| M2 : Nat) : Int)) (ty := .int) (v := ((m ||| m2 : Nat) : Int)) C ul_X0 rfl (by decide) 2 2 rfl (by decide) rfl u_fl_RX0_28 tyX0 tyX0_ok nmX0 ha ⟨by omega, by omega⟩ (by decide +kernel) rfl rfl rfl dX0_absorb_23 (fun _ h => h) ?_
  refine KAload_n C dX0_absorb_26 rfl 0 rfl ?_
  refine KDup C dX0_absorb_27 rfl ?_
  refine KGetI (S := uI (uJ S a 1 ((M ||| M2 : Nat) : Int)) a 2 ((m ||| m2 : Nat) : Int)) C ul_X0 rfl (by decide) 3 3 rfl (by decide) rfl u_fl_RX0_33 ha (v := sI S a 3) (up2_nk _ _ _ _ (by decide)) dX0_absorb_28 (fun _ h => h) ?_
  refine KAload_n C dX0_absorb_31 rfl 1 rfl ?_
  refine KGetI (S := uI (uJ S a 1 ((M ||| M2 : Nat) : Int)) a 2 ((m ||| m2 : Nat) : Int)) C ul_X0 rfl (by decide) 3 3 rfl (by decide) rfl u_fl_RX0_33 hb (v := sI S b 3) (up2_ne _ _ _ _ hne) dX0_absorb_32 (fun _ h => h) ?_
  refine KIadd C dX0_absorb_35 ?_
  refine KPutI (S := uI (uJ S a 1 ((M ||| M2 : Nat) : Int)) a 2 ((m ||| m2 : Nat) : Int)) (ty := .int) (v := (sI S a 3) + (sI S b 3)) C ul_X0 rfl (by decide) 3 3 rfl (by decide) rfl u_fl_RX0_33 tyX0 tyX0_ok nmX0 ha ⟨by omega, by omega⟩ (by decide +kernel) rfl rfl rfl dX0_absorb_36 (fun _ h => h) ?_
  refine KAload_n C dX0_absorb_39 rfl 0 rfl ?_
  refine KDup C dX0_absorb_40 rfl ?_
  refine KGetI (S := uI (uI (uJ S a 1 ((M ||| M2 : Nat) : Int)) a 2 ((m ||| m2 : Nat) : Int)) a 3 ((sI S a 3) + (sI S b 3))) C ul_X0 rfl (by decide) 4 4 rfl (by decide) rfl u_fl_RX0_36 ha (v := sI S a 4) ((up2_nk _ _ _ _ (by decide)).trans (up2_nk _ _ _ _ (by decide))) dX0_absorb_41 (fun _ h => h) ?_
  refine KAload_n C dX0_absorb_44 rfl 1 rfl ?_
  refine KGetI (S := uI (uI (uJ S a 1 ((M ||| M2 : Nat) : Int)) a 2 ((m ||| m2 : Nat) : Int)) a 3 ((sI S a 3) + (sI S b 3))) C ul_X0 rfl (by decide) 4 4 rfl (by decide) rfl u_fl_RX0_36 hb (v := sI S b 4) ((up2_ne _ _ _ _ hne).trans (up2_ne _ _ _ _ hne)) dX0_absorb_45 (fun _ h => h) ?_
  refine KIload_n C dX0_absorb_48 rfl 2 rfl ?_
  refine KIsub C dX0_absorb_49 ?_
  refine KIadd C dX0_absorb_50 ?_
  refine KPutI (S := uI (uI (uJ S a 1 ((M ||| M2 : Nat) : Int)) a 2 ((m ||| m2 : Nat) : Int)) a 3 ((sI S a 3) + (sI S b 3))) (ty := .int) (v := (sI S a 4) + ((sI S b 4) - x)) C ul_X0 rfl (by decide) 4 4 rfl (by decide) rfl u_fl_RX0_36 tyX0 tyX0_ok nmX0 ha ⟨by omega, by omega⟩ (by decide +kernel) rfl rfl rfl dX0_absorb_51 (fun _ h => h) ?_
  refine KVret C rfl (by
    exact ⟨rfl, rfl⟩) (by decide) (by decide) dX0_absorb_54
