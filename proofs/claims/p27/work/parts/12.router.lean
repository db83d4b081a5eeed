def P_X2_everyPlace (S : Sto) (q : Nat → Nat) (n : Nat) : Option Value → Sto → Prop := fun v u => v = some (.int (iI ((2 ^ n - 1 : Nat) : Int))) ∧ S = u
set_option maxRecDepth 100000 in
set_option maxHeartbeats 4000000 in
theorem ct_X2_everyPlace (l : Launch) (g : GG) (S : Sto) (q : Nat → Nat) (n : Nat) (hT : Top S q) (hcn : sI S (q 2) 2 = (n : Int)) (hn9 : n ≤ 9) : MetS l g yX2_everyPlace cX2_everyPlace 1 (some FieldType.int) 1 0 0 [.ref (q 2)] S (P_X2_everyPlace S q n) := by
  refine MetS.of (own := RX2) (lv := [(0, .ref (q 2))]) (by decide) rfl (Nat.le_of_ble_eq_true rfl) rfl ?_
  intro pX eX sX mX argsX belowX methX cX C hin
  refine KRg (fun hR => ?_)
  have hp1 := Nat.two_pow_pos n
  refine KIconst C dX2_everyPlace_0 ?_
  refine KAload_n C dX2_everyPlace_1 rfl 0 rfl ?_
  refine KGetI C ul_X2 rfl (by decide) 2 2 rfl (by decide) rfl u_fl_RX2_42 (hT.at0 2 3) (v := (n : Int)) hcn dX2_everyPlace_2 (fun _ h => h) ?_
  have rb1 := hR.b (q 2) 2 (v := (n : Int)) hcn
  refine KIshl (v := iI ((2 ^ n : Nat) : Int)) C dX2_everyPlace_5 (ib_shl (by omega)) ?_
  refine KIconst C dX2_everyPlace_6 ?_
  refine KIsub C dX2_everyPlace_7 ?_
  refine KTop (congrArg iI (show ((2 ^ n : Nat) : Int) - 1 = ((2 ^ n - 1 : Nat) : Int) from (by omega))) ?_
  refine KIret C rfl rfl (by
    exact ⟨rfl, rfl⟩) (by decide) (by decide) dX2_everyPlace_8
def P_X2_lengthBy (S : Sto) (q : Nat → Nat) (n : Nat) (d : Nat → Nat → Int) (src : Nat) (k : Nat) (left : Nat) : Option Value → Sto → Prop := fun v u => v = some (.int (iI (d src k + tr d n (left - 2 ^ k) k))) ∧ S = u
set_option maxRecDepth 100000 in
set_option maxHeartbeats 4000000 in
theorem ct_X2_lengthBy (l : Launch) (g : GG) (S : Sto) (q : Nat → Nat) (n : Nat) (d : Nat → Nat → Int) (src : Nat) (k : Nat) (left : Nat) (hT : Top S q) (hRt : Rt S q n d) (hsrc : src < n ∨ src = 9) (hk : k < n) (hb : left.testBit k = true) (hl : left < 2 ^ n) (hon : sI S (q 12) (((left - 2 ^ k) * 9 + k : Nat) : Int) = tr d n (left - 2 ^ k) k) : MetS l g yX2_lengthBy cX2_lengthBy 5 (some FieldType.int) 1 0 0 [.ref (q 2), .int (iI (src : Int)), .int (iI (k : Int)), .int (iI (left : Int))] S (P_X2_lengthBy S q n d src k left) := by
  refine MetS.of (own := RX2) (lv := [(0, .ref (q 2)), (1, .int (iI (src : Int))), (2, .int (iI (k : Int))), (3, .int (iI (left : Int)))]) (by decide) rfl (Nat.le_of_ble_eq_true rfl) rfl ?_
  intro pX eX sX mX argsX belowX methX cX C hin
  refine KRg (fun hR => ?_)
  obtain ⟨hcn, ⟨hn9, hdb⟩, -, -, -, -⟩ := id hRt
  have h512 : 2 ^ n ≤ 2 ^ 9 := Nat.pow_le_pow_right (by omega) hn9
  have hl5 : left < 512 := Nat.lt_of_lt_of_le hl h512
  have hx5 : left - 2 ^ k < 512 := Nat.lt_of_le_of_lt (Nat.sub_le _ _) hl5
  refine KIload_n C dX2_lengthBy_0 rfl 3 rfl ?_
  refine KIconst C dX2_lengthBy_1 ?_
  refine KIload_n C dX2_lengthBy_2 rfl 2 rfl ?_
  refine KIshl (v := iI ((2 ^ k : Nat) : Int)) C dX2_lengthBy_3 (ib_shl (by omega)) ?_
  refine KIxor (v := iI ((left - 2 ^ k : Nat) : Int)) C dX2_lengthBy_4 ((ib_xor left (2 ^ k)).trans (by rw [tb_xor hb])) ?_
  refine KIstore (lv' := [(4, .int (iI ((left - 2 ^ k : Nat) : Int))), (0, .ref (q 2)), (1, .int (iI (src : Int))), (2, .int (iI (k : Int))), (3, .int (iI (left : Int)))]) C dX2_lengthBy_5 (by decide) rfl ?_
  refine KAload_n C dX2_lengthBy_7 rfl 1 rfl ?_
  refine KGetR C ul_X2 rfl (by decide) 3 3 rfl (by decide) rfl u_fl_RX2_17 (hT.at0 2 3) (b := q 11) (hT.ptr 2 3 11) dX2_lengthBy_8 (fun _ h => h) ?_
  refine KIload_n C dX2_lengthBy_11 rfl 2 rfl ?_
  refine KGaldR (b := q (20 + src)) C 10 (hT.at0 11 22) (hT.ln0 11 10) ⟨by omega, by omega⟩ (by omega) (hT.way (by omega)) dX2_lengthBy_12 ?_
  refine KIload_n C dX2_lengthBy_13 rfl 3 rfl ?_
  refine KIald  (v := d src k) C 10 (hT.wat (by omega)) (hT.wln (by omega)) ⟨by omega, by omega⟩ (by omega) (hRt.get hsrc hk) dX2_lengthBy_14 ?_
  refine KAload_n C dX2_lengthBy_15 rfl 1 rfl ?_
  refine KGetR C ul_X2 rfl (by decide) 4 4 rfl (by decide) rfl u_fl_RX2_20 (hT.at0 2 3) (b := q 12) (hT.ptr 2 4 12) dX2_lengthBy_16 (fun _ h => h) ?_
  refine KIload C dX2_lengthBy_19 0 rfl ?_
  refine KBipush C dX2_lengthBy_21 (by decide) ?_
  refine KImul C dX2_lengthBy_23 ?_
  refine KIload_n C dX2_lengthBy_24 rfl 3 rfl ?_
  refine KIadd C dX2_lengthBy_25 ?_
  refine KTop (congrArg iI (show (((left - 2 ^ k : Nat) : Int) * 9) + (k : Int) = (((left - 2 ^ k) * 9 + k : Nat) : Int) from (by omega))) ?_
  refine KIald  (v := tr d n (left - 2 ^ k) k) C 4608 (hT.at0 12 20) (hT.ln0 12 4608) ⟨by omega, by omega⟩ (by omega) hon dX2_lengthBy_26 ?_
  refine KIadd C dX2_lengthBy_27 ?_
  refine KIret C rfl rfl (by
    exact ⟨rfl, rfl⟩) (by decide) (by decide) dX2_lengthBy_28
def P_X2_leastOnward (S : Sto) (q : Nat → Nat) (n : Nat) (d : Nat → Nat → Int) (src : Nat) (left : Nat) : Option Value → Sto → Prop := fun v u => v = some (.int (iI (tr d n left src))) ∧ S = u
set_option maxRecDepth 100000 in
set_option maxHeartbeats 4000000 in
theorem ct_X2_leastOnward (l : Launch) (g : GG) (S : Sto) (q : Nat → Nat) (n : Nat) (d : Nat → Nat → Int) (src : Nat) (left : Nat) (hT : Top S q) (hRt : Rt S q n d) (hsrc : src < n ∨ src = 9) (hl : left < 2 ^ n) (hon : Onw n d (sI S (q 12)) left) : MetS l g yX2_leastOnward cX2_leastOnward 5 (some FieldType.int) 2 0 0 [.ref (q 2), .int (iI (src : Int)), .int (iI (left : Int))] S (P_X2_leastOnward S q n d src left) := by
  refine MetS.of (own := RX2) (lv := [(0, .ref (q 2)), (1, .int (iI (src : Int))), (2, .int (iI (left : Int)))]) (by decide) rfl (Nat.le_of_ble_eq_true rfl) rfl ?_
  intro pX eX sX mX argsX belowX methX cX C hin
  refine KRg (fun hR => ?_)
  obtain ⟨hcn, ⟨hn9, hdb⟩, -, -, -, -⟩ := id hRt
  have h512 : 2 ^ n ≤ 2 ^ 9 := Nat.pow_le_pow_right (by omega) hn9
  refine KIload_n C dX2_leastOnward_0 rfl 2 rfl ?_
  refine KIf_ne (tgt := 14) C dX2_leastOnward_1 (by decide) ⟨by omega, by omega⟩ (fun c1 => ?_) (fun c1 => ?_)
  · refine KLdc (n := 1000000) C u_ct_RX2_49 (by decide) dX2_leastOnward_14 ?_
    refine KIstore_n (lv' := [(3, .int (iI 1000000)), (0, .ref (q 2)), (1, .int (iI (src : Int))), (2, .int (iI (left : Int)))]) C dX2_leastOnward_16 rfl (by decide) rfl ?_
    refine KIconst C dX2_leastOnward_17 ?_
    refine KIstore (lv' := [(4, .int (iI 0)), (3, .int (iI 1000000)), (0, .ref (q 2)), (1, .int (iI (src : Int))), (2, .int (iI (left : Int)))]) C dX2_leastOnward_18 (by decide) rfl ?_
    refine KLv (lv' := [(0, .ref (q 2)), (1, .int (iI (src : Int))), (2, .int (iI (left : Int))), (3, .int (iI 1000000)), (4, .int (iI 0))]) [2, 3, 4, 1, 0] rfl ?_
    have loop20 : ∀ (nX : Nat) (k : Nat), n - k < nX → (k ≤ n) → Wk pX l eX (rmK 2 0 0) sX mX argsX belowX methX cX (MQ belowX (QcG g (P_X2_leastOnward S q n d src left)) argsX sX 0 0 (ge (gB g))) g 5 0 0 20 [(0, .ref (q 2)), (1, .int (iI (src : Int))), (2, .int (iI (left : Int))), (3, .int (iI (mnb 1000000 left (fun k => d src k + tr d n (left - 2 ^ k) k) k))), (4, .int (iI (k : Int)))] [] S := by
      intro nX
      induction nX with
      | zero => intro k hm; exact absurd hm (Nat.not_lt_zero _)
      | succ nX ih20 =>
        intro k hm20 hk
        refine KRg (fun hR => ?_)
        have hmb := mnb_le 1000000 left (fun k => d src k + tr d n (left - 2 ^ k) k) k
        have hmn := mnb_nn (d := d) (left := left) (src := src) ⟨hn9, hdb⟩ hsrc k hk
        refine KIload C dX2_leastOnward_20 4 rfl ?_
        refine KAload_n C dX2_leastOnward_22 rfl 0 rfl ?_
        refine KGetI C ul_X2 rfl (by decide) 2 2 rfl (by decide) rfl u_fl_RX2_42 (hT.at0 2 3) (v := (n : Int)) hcn dX2_leastOnward_23 (fun _ h => h) ?_
        have rb1 := hR.b (q 2) 2 (v := (n : Int)) hcn
        refine KIcmp_ge (tgt := 57) C dX2_leastOnward_26 (by decide) ⟨by omega, by omega⟩ ⟨by omega, by omega⟩ (fun c26 => ?_) (fun c26 => ?_)
        · refine KIload_n C dX2_leastOnward_57 rfl 3 rfl ?_
          refine KIret C rfl rfl (by
            refine ⟨?_, rfl⟩
            rw [tr_step d n (by omega), show n = k by omega]) (by decide) (by decide) dX2_leastOnward_58
        · refine KIload_n C dX2_leastOnward_29 rfl 2 rfl ?_
          refine KIload C dX2_leastOnward_30 4 rfl ?_
          refine KCallSN (As := [.int (iI (left : Int)), .int (iI (k : Int))]) (st := []) C (ct_X5_isIn l g S left k (by omega) (by omega)) n_mn_RX2_65 u_st_yX5_isIn u_in_RX5 u_co_yX5_isIn hd_yX5_isIn.2 ⟨Nat.le_of_ble_eq_true rfl, Nat.le_of_ble_eq_true rfl⟩ ⟨Nat.le_of_ble_eq_true rfl, Nat.le_of_ble_eq_true rfl⟩ (Nat.le_of_ble_eq_true rfl) dX2_leastOnward_32 rfl (fun v32 u32 hp32 => ?_)
          obtain ⟨⟨b32, rfl⟩ | ⟨b32, rfl⟩, rfl⟩ := hp32
          · refine KSt (st2 := [.int (iI 1)]) rfl ?_
            refine KIf_eq (tgt := 51) C dX2_leastOnward_35 (by decide) ⟨by omega, by omega⟩ (fun h => absurd h (by decide)) (fun _ => ?_)
            refine KIload_n C dX2_leastOnward_38 rfl 3 rfl ?_
            refine KAload_n C dX2_leastOnward_39 rfl 0 rfl ?_
            refine KIload_n C dX2_leastOnward_40 rfl 1 rfl ?_
            refine KIload C dX2_leastOnward_41 4 rfl ?_
            refine KIload_n C dX2_leastOnward_43 rfl 2 rfl ?_
            refine KCallV (As := [.int (iI (src : Int)), .int (iI (k : Int)), .int (iI (left : Int))]) (b := q 2) (st := [.int (iI (mnb 1000000 left (fun k => d src k + tr d n (left - 2 ^ k) k) k))]) C (ct_X2_lengthBy l g S q n d src k left hT hRt (by omega) (by omega) (by assumption) hl (hon.get (by omega) (by assumption))) u_ml_RX2_76 u_im_yX2_lengthBy u_se_yX2_lengthBy u_in_RX2 u_co_yX2_lengthBy hd_yX2_lengthBy (hT.at0 2 3) (by decide) rfl rfl ⟨Nat.le_of_ble_eq_true rfl, Nat.le_of_ble_eq_true rfl⟩ ⟨Nat.le_of_ble_eq_true rfl, Nat.le_of_ble_eq_true rfl⟩ (Nat.le_of_ble_eq_true rfl) dX2_leastOnward_44 rfl (fun v44 u44 hp44 => ?_)
            obtain ⟨rfl, rfl⟩ := hp44
            refine KSt (st2 := [.int (iI (d src k + tr d n (left - 2 ^ k) k)), .int (iI (mnb 1000000 left (fun k => d src k + tr d n (left - 2 ^ k) k) k))]) rfl ?_
            have htb := tr_nn ⟨hn9, hdb⟩ (left - 2 ^ k) k (Or.inl (by omega))
            have htc := tr_b ⟨hn9, hdb⟩ n (left - 2 ^ k) k (Nat.le_refl _) (Nat.lt_of_le_of_lt (Nat.sub_le _ _) hl) (Or.inl (by omega))
            have hdk := hdb src k hsrc (Or.inl (by omega))
            refine KMmin (z := minI (mnb 1000000 left (fun k => d src k + tr d n (left - 2 ^ k) k) k) (d src k + tr d n (left - 2 ^ k) k)) C ⟨by omega, by omega⟩ ⟨by omega, by omega⟩ rfl u_ml_RX2_80 u_st_yJ9_min_7cf53 u_in_RJ9 u_co_yJ9_min_7cf53 ⟨Nat.le_of_ble_eq_true rfl, Nat.le_of_ble_eq_true rfl⟩ ⟨Nat.le_of_ble_eq_true rfl, Nat.le_of_ble_eq_true rfl⟩ dX2_leastOnward_47 ?_
            have mb2 := minI_b (mnb 1000000 left (fun k => d src k + tr d n (left - 2 ^ k) k) k) (d src k + tr d n (left - 2 ^ k) k)
            refine KTop (congrArg iI (show minI (mnb 1000000 left (fun k => d src k + tr d n (left - 2 ^ k) k) k) (d src k + tr d n (left - 2 ^ k) k) = mnb 1000000 left (fun k => d src k + tr d n (left - 2 ^ k) k) (k + 1) from (mnb_t (by assumption)).symm)) ?_
            refine KIstore_n (lv' := [(3, .int (iI (mnb 1000000 left (fun k => d src k + tr d n (left - 2 ^ k) k) (k + 1)))), (0, .ref (q 2)), (1, .int (iI (src : Int))), (2, .int (iI (left : Int))), (4, .int (iI (k : Int)))]) C dX2_leastOnward_50 rfl (by decide) rfl ?_
            refine KIinc (v := ((k + 1 : Nat) : Int)) (lv' := [(4, .int (iI ((k + 1 : Nat) : Int))), (3, .int (iI (mnb 1000000 left (fun k => d src k + tr d n (left - 2 ^ k) k) (k + 1)))), (0, .ref (q 2)), (1, .int (iI (src : Int))), (2, .int (iI (left : Int)))]) C dX2_leastOnward_51 4 rfl (by omega) (by decide) rfl ?_
            refine KGoto (tgt := 20) C dX2_leastOnward_54 (by decide) ?_
            refine KLv (lv' := [(0, .ref (q 2)), (1, .int (iI (src : Int))), (2, .int (iI (left : Int))), (3, .int (iI (mnb 1000000 left (fun k => d src k + tr d n (left - 2 ^ k) k) (k + 1)))), (4, .int (iI ((k + 1 : Nat) : Int)))]) [2, 3, 4, 1, 0] rfl ?_
            exact ih20 (k + 1) (by omega) (by omega)
          · refine KSt (st2 := [.int (iI 0)]) rfl ?_
            refine KLvE (lv2 := [(0, .ref (q 2)), (1, .int (iI (src : Int))), (2, .int (iI (left : Int))), (3, .int (iI (mnb 1000000 left (fun k => d src k + tr d n (left - 2 ^ k) k) (k + 1)))), (4, .int (iI (k : Int)))]) (congrArg (fun zz : Int => ([(0, .ref (q 2)), (1, .int (iI (src : Int))), (2, .int (iI (left : Int))), (3, .int (iI zz)), (4, .int (iI (k : Int)))] : List (Nat × Value))) (show (mnb 1000000 left (fun k => d src k + tr d n (left - 2 ^ k) k) k : Int) = mnb 1000000 left (fun k => d src k + tr d n (left - 2 ^ k) k) (k + 1) from (mnb_f b32).symm)) ?_
            refine KIf_eq (tgt := 51) C dX2_leastOnward_35 (by decide) ⟨by omega, by omega⟩ (fun _ => ?_) (fun h => absurd h (by decide))
            refine KIinc (v := ((k + 1 : Nat) : Int)) (lv' := [(4, .int (iI ((k + 1 : Nat) : Int))), (0, .ref (q 2)), (1, .int (iI (src : Int))), (2, .int (iI (left : Int))), (3, .int (iI (mnb 1000000 left (fun k => d src k + tr d n (left - 2 ^ k) k) (k + 1))))]) C dX2_leastOnward_51 4 rfl (by omega) (by decide) rfl ?_
            refine KGoto (tgt := 20) C dX2_leastOnward_54 (by decide) ?_
            refine KLv (lv' := [(0, .ref (q 2)), (1, .int (iI (src : Int))), (2, .int (iI (left : Int))), (3, .int (iI (mnb 1000000 left (fun k => d src k + tr d n (left - 2 ^ k) k) (k + 1)))), (4, .int (iI ((k + 1 : Nat) : Int)))]) [1, 2, 3, 4, 0] rfl ?_
            exact ih20 (k + 1) (by omega) (by omega)
    exact loop20 _ 0 (Nat.lt_succ_self _) (by omega)
  · refine KAload_n C dX2_leastOnward_4 rfl 0 rfl ?_
    refine KGetR C ul_X2 rfl (by decide) 3 3 rfl (by decide) rfl u_fl_RX2_17 (hT.at0 2 3) (b := q 11) (hT.ptr 2 3 11) dX2_leastOnward_5 (fun _ h => h) ?_
    refine KIload_n C dX2_leastOnward_8 rfl 1 rfl ?_
    refine KGaldR (b := q (20 + src)) C 10 (hT.at0 11 22) (hT.ln0 11 10) ⟨by omega, by omega⟩ (by omega) (hT.way (by omega)) dX2_leastOnward_9 ?_
    refine KBipush C dX2_leastOnward_10 (by decide) ?_
    refine KIald  (v := d src 9) C 10 (hT.wat (by omega)) (hT.wln (by omega)) ⟨by omega, by omega⟩ (by omega) (hRt.home hsrc) dX2_leastOnward_12 ?_
    refine KIret C rfl rfl (by
      refine ⟨?_, rfl⟩
      rw [show left = 0 by omega]
      rfl) (by decide) (by decide) dX2_leastOnward_13
def P_X2_fillOnward (S : Sto) (q : Nat → Nat) (n : Nat) (d : Nat → Nat → Int) : Option Value → Sto → Prop := fun v u => v = none ∧ ∃ F, u = wI S (row1 (sI S) (q 12) F) ∧ Onw n d F (2 ^ n)
set_option maxRecDepth 100000 in
set_option maxHeartbeats 4000000 in
theorem ct_X2_fillOnward (l : Launch) (g : GG) (S : Sto) (q : Nat → Nat) (n : Nat) (d : Nat → Nat → Int) (hT : Top S q) (hRt : Rt S q n d) : MetS l g yX2_fillOnward cX2_fillOnward 4 (none) 3 0 0 [.ref (q 2)] S (P_X2_fillOnward S q n d) := by
  refine MetS.of (own := RX2) (lv := [(0, .ref (q 2))]) (by decide) rfl (Nat.le_of_ble_eq_true rfl) rfl ?_
  intro pX eX sX mX argsX belowX methX cX C hin
  refine KRg (fun hR => ?_)
  obtain ⟨hcn, ⟨hn9, hdb⟩, -, -, -, -⟩ := id hRt
  have h512 : 2 ^ n ≤ 2 ^ 9 := Nat.pow_le_pow_right (by omega) hn9
  refine KIconst C dX2_fillOnward_0 ?_
  refine KAload_n C dX2_fillOnward_1 rfl 0 rfl ?_
  refine KGetI C ul_X2 rfl (by decide) 2 2 rfl (by decide) rfl u_fl_RX2_42 (hT.at0 2 3) (v := (n : Int)) hcn dX2_fillOnward_2 (fun _ h => h) ?_
  have rb1 := hR.b (q 2) 2 (v := (n : Int)) hcn
  refine KIshl (v := iI ((2 ^ n : Nat) : Int)) C dX2_fillOnward_5 (ib_shl (by omega)) ?_
  refine KIstore_n (lv' := [(1, .int (iI ((2 ^ n : Nat) : Int))), (0, .ref (q 2))]) C dX2_fillOnward_6 rfl (by decide) rfl ?_
  refine KIconst C dX2_fillOnward_7 ?_
  refine KIstore_n (lv' := [(2, .int (iI 0)), (1, .int (iI ((2 ^ n : Nat) : Int))), (0, .ref (q 2))]) C dX2_fillOnward_8 rfl (by decide) rfl ?_
  refine KSto (S2 := wI S (row1 (sI S) (q 12) (sI S (q 12)))) (by rw [row1_self]) ?_
  refine KLv (lv' := [(0, .ref (q 2)), (1, .int (iI ((2 ^ n : Nat) : Int))), (2, .int (iI 0))]) [2, 1, 0] rfl ?_
  have loop9 : ∀ (nX : Nat) (left : Nat) (F : Int → Int), 2 ^ n - left < nX → (left ≤ 2 ^ n) → (Onw n d F left) → Wk pX l eX (rmK 3 0 0) sX mX argsX belowX methX cX (MQ belowX (QcG g (P_X2_fillOnward S q n d)) argsX sX 0 0 (ge (gB g))) g 4 0 0 9 [(0, .ref (q 2)), (1, .int (iI ((2 ^ n : Nat) : Int))), (2, .int (iI (left : Int)))] [] (wI S (row1 (sI S) (q 12) F)) := by
    intro nX
    induction nX with
    | zero => intro left F hm; exact absurd hm (Nat.not_lt_zero _)
    | succ nX ih9 =>
      intro left F hm9 hl9 hO
      refine KRg (fun hR => ?_)
      refine KIload_n C dX2_fillOnward_9 rfl 2 rfl ?_
      refine KIload_n C dX2_fillOnward_10 rfl 1 rfl ?_
      refine KIcmp_ge (tgt := 61) C dX2_fillOnward_11 (by decide) ⟨by omega, by omega⟩ ⟨by omega, by omega⟩ (fun c11 => ?_) (fun c11 => ?_)
      · refine KVret C rfl (by
          exact ⟨rfl, F, rfl, (show left = 2 ^ n by omega) ▸ hO⟩) (by decide) (by decide) dX2_fillOnward_61
      · refine KIconst C dX2_fillOnward_14 ?_
        refine KIstore_n (lv' := [(3, .int (iI 0)), (0, .ref (q 2)), (1, .int (iI ((2 ^ n : Nat) : Int))), (2, .int (iI (left : Int)))]) C dX2_fillOnward_15 rfl (by decide) rfl ?_
        refine KLv (lv' := [(0, .ref (q 2)), (1, .int (iI ((2 ^ n : Nat) : Int))), (2, .int (iI (left : Int))), (3, .int (iI 0))]) [1, 2, 3, 0] rfl ?_
        have loop16 : ∀ (nX : Nat) (j : Nat) (F : Int → Int), n - j < nX → (j ≤ n) → (OnwR n d F left j) → Wk pX l eX (rmK 3 0 0) sX mX argsX belowX methX cX (MQ belowX (QcG g (P_X2_fillOnward S q n d)) argsX sX 0 0 (ge (gB g))) g 4 0 0 16 [(0, .ref (q 2)), (1, .int (iI ((2 ^ n : Nat) : Int))), (2, .int (iI (left : Int))), (3, .int (iI (j : Int)))] [] (wI S (row1 (sI S) (q 12) F)) := by
          intro nX
          induction nX with
          | zero => intro j F hm; exact absurd hm (Nat.not_lt_zero _)
          | succ nX ih16 =>
            intro j F hm16 hj hO2
            refine KRg (fun hR => ?_)
            refine KIload_n C dX2_fillOnward_16 rfl 3 rfl ?_
            refine KAload_n C dX2_fillOnward_17 rfl 0 rfl ?_
            refine KGetI (S := wI S (row1 (sI S) (q 12) F)) C ul_X2 rfl (by decide) 2 2 rfl (by decide) rfl u_fl_RX2_42 (hT.at0 2 3) (v := (n : Int)) ((row1_ne _ _ _ (hT.ne 2 12)).trans hcn) dX2_fillOnward_18 (fun _ h => h) ?_
            have rb2 := hR.b (q 2) 2 (v := (n : Int)) ((row1_ne _ _ _ (hT.ne 2 12)).trans hcn)
            refine KIcmp_ge (tgt := 55) C dX2_fillOnward_21 (by decide) ⟨by omega, by omega⟩ ⟨by omega, by omega⟩ (fun c21 => ?_) (fun c21 => ?_)
            · refine KIinc (v := ((left + 1 : Nat) : Int)) (lv' := [(2, .int (iI ((left + 1 : Nat) : Int))), (0, .ref (q 2)), (1, .int (iI ((2 ^ n : Nat) : Int))), (3, .int (iI (j : Int)))]) C dX2_fillOnward_55 2 rfl (by omega) (by decide) rfl ?_
              refine KGoto (tgt := 9) C dX2_fillOnward_58 (by decide) ?_
              refine KLv (lv' := [(0, .ref (q 2)), (1, .int (iI ((2 ^ n : Nat) : Int))), (2, .int (iI ((left + 1 : Nat) : Int)))]) [1, 2, 0] rfl ?_
              exact ih9 (left + 1) F (by omega) (by omega) (hO2.done (by omega))
            · refine KIload_n C dX2_fillOnward_24 rfl 2 rfl ?_
              refine KIload_n C dX2_fillOnward_25 rfl 3 rfl ?_
              refine KCallSN (As := [.int (iI (left : Int)), .int (iI (j : Int))]) (st := []) C (ct_X5_isIn l g (wI S (row1 (sI S) (q 12) F)) left j (by omega) (by omega)) n_mn_RX2_65 u_st_yX5_isIn u_in_RX5 u_co_yX5_isIn hd_yX5_isIn.2 ⟨Nat.le_of_ble_eq_true rfl, Nat.le_of_ble_eq_true rfl⟩ ⟨Nat.le_of_ble_eq_true rfl, Nat.le_of_ble_eq_true rfl⟩ (Nat.le_of_ble_eq_true rfl) dX2_fillOnward_26 rfl (fun v26 u26 hp26 => ?_)
              obtain ⟨⟨b26, rfl⟩ | ⟨b26, rfl⟩, rfl⟩ := hp26
              · refine KSt (st2 := [.int (iI 1)]) rfl ?_
                refine KIf_ne (tgt := 49) C dX2_fillOnward_29 (by decide) ⟨by omega, by omega⟩ (fun _ => ?_) (fun h => absurd h (by decide))
                refine KIinc (v := ((j + 1 : Nat) : Int)) (lv' := [(3, .int (iI ((j + 1 : Nat) : Int))), (0, .ref (q 2)), (1, .int (iI ((2 ^ n : Nat) : Int))), (2, .int (iI (left : Int)))]) C dX2_fillOnward_49 3 rfl (by omega) (by decide) rfl ?_
                refine KGoto (tgt := 16) C dX2_fillOnward_52 (by decide) ?_
                refine KLv (lv' := [(0, .ref (q 2)), (1, .int (iI ((2 ^ n : Nat) : Int))), (2, .int (iI (left : Int))), (3, .int (iI ((j + 1 : Nat) : Int)))]) [1, 2, 3, 0] rfl ?_
                exact ih16 (j + 1) F (by omega) (by omega) (by first | exact hO2.skip (by assumption) | exact hO2.put hn9 (by omega))
              · refine KSt (st2 := [.int (iI 0)]) rfl ?_
                have hbf : left.testBit j = false := by rw [Bool.eq_false_iff]; exact b26
                refine KIf_ne (tgt := 49) C dX2_fillOnward_29 (by decide) ⟨by omega, by omega⟩ (fun h => absurd h (by decide)) (fun _ => ?_)
                refine KAload_n C dX2_fillOnward_32 rfl 0 rfl ?_
                refine KGetR (S := wI S (row1 (sI S) (q 12) F)) C ul_X2 rfl (by decide) 4 4 rfl (by decide) rfl u_fl_RX2_20 (hT.at0 2 3) (b := q 12) (hT.ptr 2 4 12) dX2_fillOnward_33 (fun _ h => h) ?_
                refine KIload_n C dX2_fillOnward_36 rfl 2 rfl ?_
                refine KBipush C dX2_fillOnward_37 (by decide) ?_
                refine KImul C dX2_fillOnward_39 ?_
                refine KIload_n C dX2_fillOnward_40 rfl 3 rfl ?_
                refine KIadd C dX2_fillOnward_41 ?_
                refine KTop (congrArg iI (show ((left : Int) * 9) + (j : Int) = ((left * 9 + j : Nat) : Int) from (by omega))) ?_
                refine KAload_n C dX2_fillOnward_42 rfl 0 rfl ?_
                refine KIload_n C dX2_fillOnward_43 rfl 3 rfl ?_
                refine KIload_n C dX2_fillOnward_44 rfl 2 rfl ?_
                refine KCallV (As := [.int (iI (j : Int)), .int (iI (left : Int))]) (b := q 2) (st := [.int (iI ((left * 9 + j : Nat) : Int)), .ref (q 12)]) C (ct_X2_leastOnward l g (wI S (row1 (sI S) (q 12) F)) q n d j left hT (hRt.of hT (fun a k h => row1_ne _ _ _ h)) (Or.inl (by omega)) (by omega) (Onw.of (fun j => row1_same _ _ _ _) hO2.1)) u_ml_RX2_38 u_im_yX2_leastOnward u_se_yX2_leastOnward u_in_RX2 u_co_yX2_leastOnward hd_yX2_leastOnward (hT.at0 2 3) (by decide) rfl rfl ⟨Nat.le_of_ble_eq_true rfl, Nat.le_of_ble_eq_true rfl⟩ ⟨Nat.le_of_ble_eq_true rfl, Nat.le_of_ble_eq_true rfl⟩ (Nat.le_of_ble_eq_true rfl) dX2_fillOnward_45 rfl (fun v45 u45 hp45 => ?_)
                obtain ⟨rfl, rfl⟩ := hp45
                refine KSt (st2 := [.int (iI (tr d n left j)), .int (iI ((left * 9 + j : Nat) : Int)), .ref (q 12)]) rfl ?_
                refine KRg (fun hR => ?_)
                have htb := tr_b ⟨hn9, hdb⟩ n left j (Nat.le_refl _) (by omega) (Or.inl (by omega))
                refine KIast (S := wI S (row1 (sI S) (q 12) F)) C 4608 (hT.at0 12 20) (hT.ln0 12 4608) ⟨by omega, by omega⟩ (by omega) ⟨by omega, by omega⟩ dX2_fillOnward_48 ?_
                refine KSto (S2 := wI S (row1 (sI S) (q 12) (upd1 F ((left * 9 + j : Nat) : Int) (tr d n left j)))) (congrArg (wI S) (up2_row1 _ _ _ _ _)) ?_
                refine KIinc (v := ((j + 1 : Nat) : Int)) (lv' := [(3, .int (iI ((j + 1 : Nat) : Int))), (0, .ref (q 2)), (1, .int (iI ((2 ^ n : Nat) : Int))), (2, .int (iI (left : Int)))]) C dX2_fillOnward_49 3 rfl (by omega) (by decide) rfl ?_
                refine KGoto (tgt := 16) C dX2_fillOnward_52 (by decide) ?_
                refine KLv (lv' := [(0, .ref (q 2)), (1, .int (iI ((2 ^ n : Nat) : Int))), (2, .int (iI (left : Int))), (3, .int (iI ((j + 1 : Nat) : Int)))]) [1, 2, 3, 0] rfl ?_
                exact ih16 (j + 1) (upd1 F ((left * 9 + j : Nat) : Int) (tr d n left j)) (by omega) (by omega) (by first | exact hO2.skip (by assumption) | exact hO2.put hn9 (by omega))
        exact loop16 _ 0 F (Nat.lt_succ_self _) (by omega) ⟨hO, fun src h => absurd h (Nat.not_lt_zero _)⟩
  exact loop9 _ 0 (sI S (q 12)) (Nat.lt_succ_self _) (Nat.zero_le _) (fun left src h => absurd h (Nat.not_lt_zero _))
def P_X2_leastLength (S : Sto) (q : Nat → Nat) (m : Nat) : Option Value → Sto → Prop := fun v u => v = some (.int (iI (tour (sI S (q 1) 1) (sI S (q 1) 2) (sI S (q 6)) m))) ∧ ∃ f, u = wI S f ∧ Kept S q f
set_option maxRecDepth 100000 in
set_option maxHeartbeats 4000000 in
theorem ct_X2_leastLength (l : Launch) (g : GG) (S : Sto) (q : Nat → Nat) (m : Nat) (hT : Top S q) (hCf : Cf S q) (hm : okM (sI S (q 1) 1) (sI S (q 6)) m) (hz : sI S (q 29) 9 = 0) : MetS l g yX2_leastLength cX2_leastLength 2 (some FieldType.int) 4 0 0 [.ref (q 2), .int (iI (m : Int))] S (P_X2_leastLength S q m) := by
  refine MetS.of (own := RX2) (lv := [(0, .ref (q 2)), (1, .int (iI (m : Int)))]) (by decide) rfl (Nat.le_of_ble_eq_true rfl) rfl ?_
  intro pX eX sX mX argsX belowX methX cX C hin
  refine KRg (fun hR => ?_)
  have hp1 := Nat.two_pow_pos (sll S q m).length
  refine KAload_n C dX2_leastLength_0 rfl 0 rfl ?_
  refine KIload_n C dX2_leastLength_1 rfl 1 rfl ?_
  refine KCallV (As := [.int (iI (m : Int))]) (b := q 2) (st := []) C (ct_X2_gather l g S q m hT hCf hm hz) u_ml_RX2_27 u_im_yX2_gather u_se_yX2_gather u_in_RX2 u_co_yX2_gather hd_yX2_gather (hT.at0 2 3) (by decide) rfl rfl ⟨Nat.le_of_ble_eq_true rfl, Nat.le_of_ble_eq_true rfl⟩ ⟨Nat.le_of_ble_eq_true rfl, Nat.le_of_ble_eq_true rfl⟩ (Nat.le_of_ble_eq_true rfl) dX2_leastLength_2 rfl (fun v2 u2 hp2 => ?_)
  obtain ⟨rfl, f2, rfl, hGat2⟩ := hp2
  refine KSt (st2 := []) rfl ?_
  refine KRg (fun hR => ?_)
  have hRt := hGat2.rt hCf hm
  have hK := hGat2.kept
  refine KAload_n C dX2_leastLength_5 rfl 0 rfl ?_
  refine KCallV (As := []) (b := q 2) (st := []) C (ct_X2_fillOnward l g (wI S f2) q ((sll S q m).length) (dM S q m) hT hRt) u_ml_RX2_31 u_im_yX2_fillOnward u_se_yX2_fillOnward u_in_RX2 u_co_yX2_fillOnward hd_yX2_fillOnward (hT.at0 2 3) (by decide) rfl rfl ⟨Nat.le_of_ble_eq_true rfl, Nat.le_of_ble_eq_true rfl⟩ ⟨Nat.le_of_ble_eq_true rfl, Nat.le_of_ble_eq_true rfl⟩ (Nat.le_of_ble_eq_true rfl) dX2_leastLength_6 rfl (fun v6 u6 hp6 => ?_)
  obtain ⟨rfl, F6, rfl, hOn6⟩ := hp6
  refine KSt (st2 := []) rfl ?_
  refine KRg (fun hR => ?_)
  have hRt2 : Rt (wI S (row1 f2 (q 12) F6)) q (sll S q m).length (dM S q m) := Rt.of (S := wI S f2) (T := wI S (row1 f2 (q 12) F6)) hT hRt (fun a k h => row1_ne _ _ _ h)
  have hn9 := hRt.2.1.1
  refine KAload_n C dX2_leastLength_9 rfl 0 rfl ?_
  refine KBipush C dX2_leastLength_10 (by decide) ?_
  refine KAload_n C dX2_leastLength_12 rfl 0 rfl ?_
  refine KCallV (As := []) (b := q 2) (st := [.int (iI 9), .ref (q 2)]) C (ct_X2_everyPlace l g (wI S (row1 f2 (q 12) F6)) q ((sll S q m).length) hT hRt2.1 (by omega)) u_ml_RX2_34 u_im_yX2_everyPlace u_se_yX2_everyPlace u_in_RX2 u_co_yX2_everyPlace hd_yX2_everyPlace (hT.at0 2 3) (by decide) rfl rfl ⟨Nat.le_of_ble_eq_true rfl, Nat.le_of_ble_eq_true rfl⟩ ⟨Nat.le_of_ble_eq_true rfl, Nat.le_of_ble_eq_true rfl⟩ (Nat.le_of_ble_eq_true rfl) dX2_leastLength_13 rfl (fun v13 u13 hp13 => ?_)
  obtain ⟨rfl, rfl⟩ := hp13
  refine KSt (st2 := [.int (iI ((2 ^ ((sll S q m).length) - 1 : Nat) : Int)), .int (iI 9), .ref (q 2)]) rfl ?_
  refine KRg (fun hR => ?_)
  refine KCallV (As := [.int (iI 9), .int (iI ((2 ^ ((sll S q m).length) - 1 : Nat) : Int))]) (b := q 2) (st := []) C (ct_X2_leastOnward l g (wI S (row1 f2 (q 12) F6)) q ((sll S q m).length) (dM S q m) 9 (2 ^ ((sll S q m).length) - 1) hT hRt2 (Or.inr rfl) (by omega) (Onw.of (fun j => row1_same _ _ _ _) (fun a b h => hOn6 a b (by omega)))) u_ml_RX2_38 u_im_yX2_leastOnward u_se_yX2_leastOnward u_in_RX2 u_co_yX2_leastOnward hd_yX2_leastOnward (hT.at0 2 3) (by decide) rfl rfl ⟨Nat.le_of_ble_eq_true rfl, Nat.le_of_ble_eq_true rfl⟩ ⟨Nat.le_of_ble_eq_true rfl, Nat.le_of_ble_eq_true rfl⟩ (Nat.le_of_ble_eq_true rfl) dX2_leastLength_16 rfl (fun v16 u16 hp16 => ?_)
  obtain ⟨rfl, rfl⟩ := hp16
  refine KSt (st2 := [.int (iI (tr (dM S q m) ((sll S q m).length) (2 ^ ((sll S q m).length) - 1) 9))]) rfl ?_
  refine KRg (fun hR => ?_)
  refine KIret C rfl rfl (by
    exact ⟨rfl, _, rfl, hK.row12 hT _⟩) (by decide) (by decide) dX2_leastLength_19
def P_X2_bestNext (S : Sto) (q : Nat → Nat) (n : Nat) (d : Nat → Nat → Int) (src : Nat) (left : Nat) : Option Value → Sto → Prop := fun v u => v = some (.int (iI ((bnI left (fun k => d src k + tr d n (left - 2 ^ k) k) n : Nat) : Int))) ∧ S = u
set_option maxRecDepth 100000 in
set_option maxHeartbeats 4000000 in
theorem ct_X2_bestNext (l : Launch) (g : GG) (S : Sto) (q : Nat → Nat) (n : Nat) (d : Nat → Nat → Int) (src : Nat) (left : Nat) (hT : Top S q) (hRt : Rt S q n d) (hsrc : src < n ∨ src = 9) (hl : left < 2 ^ n) (hon : Onw n d (sI S (q 12)) left) : MetS l g yX2_bestNext cX2_bestNext 6 (some FieldType.int) 2 0 0 [.ref (q 2), .int (iI (src : Int)), .int (iI (left : Int))] S (P_X2_bestNext S q n d src left) := by
  refine MetS.of (own := RX2) (lv := [(0, .ref (q 2)), (1, .int (iI (src : Int))), (2, .int (iI (left : Int)))]) (by decide) rfl (Nat.le_of_ble_eq_true rfl) rfl ?_
  intro pX eX sX mX argsX belowX methX cX C hin
  refine KRg (fun hR => ?_)
  obtain ⟨hcn, ⟨hn9, hdb⟩, -, -, -, -⟩ := id hRt
  have h512 : 2 ^ n ≤ 2 ^ 9 := Nat.pow_le_pow_right (by omega) hn9
  refine KLdc (n := 1000000) C u_ct_RX2_49 (by decide) dX2_bestNext_0 ?_
  refine KIstore_n (lv' := [(3, .int (iI 1000000)), (0, .ref (q 2)), (1, .int (iI (src : Int))), (2, .int (iI (left : Int)))]) C dX2_bestNext_2 rfl (by decide) rfl ?_
  refine KIconst C dX2_bestNext_3 ?_
  refine KIstore (lv' := [(4, .int (iI 0)), (3, .int (iI 1000000)), (0, .ref (q 2)), (1, .int (iI (src : Int))), (2, .int (iI (left : Int)))]) C dX2_bestNext_4 (by decide) rfl ?_
  refine KIconst C dX2_bestNext_6 ?_
  refine KIstore (lv' := [(5, .int (iI 0)), (4, .int (iI 0)), (3, .int (iI 1000000)), (0, .ref (q 2)), (1, .int (iI (src : Int))), (2, .int (iI (left : Int)))]) C dX2_bestNext_7 (by decide) rfl ?_
  refine KLv (lv' := [(0, .ref (q 2)), (1, .int (iI (src : Int))), (2, .int (iI (left : Int))), (3, .int (iI 1000000)), (4, .int (iI 0)), (5, .int (iI 0))]) [3, 4, 5, 2, 1, 0] rfl ?_
  have loop9 : ∀ (nX : Nat) (k : Nat), n - k < nX → (k ≤ n) → Wk pX l eX (rmK 2 0 0) sX mX argsX belowX methX cX (MQ belowX (QcG g (P_X2_bestNext S q n d src left)) argsX sX 0 0 (ge (gB g))) g 6 0 0 9 [(0, .ref (q 2)), (1, .int (iI (src : Int))), (2, .int (iI (left : Int))), (3, .int (iI (mnb 1000000 left (fun k => d src k + tr d n (left - 2 ^ k) k) k))), (4, .int (iI ((bnI left (fun k => d src k + tr d n (left - 2 ^ k) k) k : Nat) : Int))), (5, .int (iI (k : Int)))] [] S := by
    intro nX
    induction nX with
    | zero => intro k hm; exact absurd hm (Nat.not_lt_zero _)
    | succ nX ih9 =>
      intro k hm9 hk
      refine KRg (fun hR => ?_)
      have hmb := mnb_le 1000000 left (fun k => d src k + tr d n (left - 2 ^ k) k) k
      have hmn := mnb_nn (d := d) (left := left) (src := src) ⟨hn9, hdb⟩ hsrc k hk
      refine KIload C dX2_bestNext_9 5 rfl ?_
      refine KAload_n C dX2_bestNext_11 rfl 0 rfl ?_
      refine KGetI C ul_X2 rfl (by decide) 2 2 rfl (by decide) rfl u_fl_RX2_42 (hT.at0 2 3) (v := (n : Int)) hcn dX2_bestNext_12 (fun _ h => h) ?_
      have rb1 := hR.b (q 2) 2 (v := (n : Int)) hcn
      refine KIcmp_ge (tgt := 58) C dX2_bestNext_15 (by decide) ⟨by omega, by omega⟩ ⟨by omega, by omega⟩ (fun c15 => ?_) (fun c15 => ?_)
      · refine KIload C dX2_bestNext_58 4 rfl ?_
        refine KIret C rfl rfl (by
          refine ⟨?_, rfl⟩
          rw [show n = k by omega]) (by decide) (by decide) dX2_bestNext_60
      · refine KIload_n C dX2_bestNext_18 rfl 2 rfl ?_
        refine KIload C dX2_bestNext_19 5 rfl ?_
        refine KCallSN (As := [.int (iI (left : Int)), .int (iI (k : Int))]) (st := []) C (ct_X5_isIn l g S left k (by omega) (by omega)) n_mn_RX2_65 u_st_yX5_isIn u_in_RX5 u_co_yX5_isIn hd_yX5_isIn.2 ⟨Nat.le_of_ble_eq_true rfl, Nat.le_of_ble_eq_true rfl⟩ ⟨Nat.le_of_ble_eq_true rfl, Nat.le_of_ble_eq_true rfl⟩ (Nat.le_of_ble_eq_true rfl) dX2_bestNext_21 rfl (fun v21 u21 hp21 => ?_)
        obtain ⟨⟨b21, rfl⟩ | ⟨b21, rfl⟩, rfl⟩ := hp21
        · refine KSt (st2 := [.int (iI 1)]) rfl ?_
          refine KIf_eq (tgt := 52) C dX2_bestNext_24 (by decide) ⟨by omega, by omega⟩ (fun h => absurd h (by decide)) (fun _ => ?_)
          refine KAload_n C dX2_bestNext_27 rfl 0 rfl ?_
          refine KIload_n C dX2_bestNext_28 rfl 1 rfl ?_
          refine KIload C dX2_bestNext_29 5 rfl ?_
          refine KIload_n C dX2_bestNext_31 rfl 2 rfl ?_
          refine KCallV (As := [.int (iI (src : Int)), .int (iI (k : Int)), .int (iI (left : Int))]) (b := q 2) (st := []) C (ct_X2_lengthBy l g S q n d src k left hT hRt (by omega) (by omega) (by assumption) hl (hon.get (by omega) (by assumption))) u_ml_RX2_76 u_im_yX2_lengthBy u_se_yX2_lengthBy u_in_RX2 u_co_yX2_lengthBy hd_yX2_lengthBy (hT.at0 2 3) (by decide) rfl rfl ⟨Nat.le_of_ble_eq_true rfl, Nat.le_of_ble_eq_true rfl⟩ ⟨Nat.le_of_ble_eq_true rfl, Nat.le_of_ble_eq_true rfl⟩ (Nat.le_of_ble_eq_true rfl) dX2_bestNext_32 rfl (fun v32 u32 hp32 => ?_)
          obtain ⟨rfl, rfl⟩ := hp32
          refine KSt (st2 := [.int (iI (d src k + tr d n (left - 2 ^ k) k))]) rfl ?_
          have htc := tr_b ⟨hn9, hdb⟩ n (left - 2 ^ k) k (Nat.le_refl _) (Nat.lt_of_le_of_lt (Nat.sub_le _ _) hl) (Or.inl (by omega))
          have hdk := hdb src k hsrc (Or.inl (by omega))
          refine KIload_n C dX2_bestNext_35 rfl 3 rfl ?_
          refine KIcmp_ge (tgt := 52) C dX2_bestNext_36 (by decide) ⟨by omega, by omega⟩ ⟨by omega, by omega⟩ (fun c36 => ?_) (fun c36 => ?_)
          · obtain ⟨eb1, eb2⟩ := bnI_f (k := k) (left := left) (g := (fun k => d src k + tr d n (left - 2 ^ k) k)) (Or.inr c36)
            refine KLvE (lv2 := [(0, .ref (q 2)), (1, .int (iI (src : Int))), (2, .int (iI (left : Int))), (3, .int (iI (mnb 1000000 left (fun k => d src k + tr d n (left - 2 ^ k) k) (k + 1)))), (4, .int (iI ((bnI left (fun k => d src k + tr d n (left - 2 ^ k) k) k : Nat) : Int))), (5, .int (iI (k : Int)))]) (congrArg (fun zz : Int => ([(0, .ref (q 2)), (1, .int (iI (src : Int))), (2, .int (iI (left : Int))), (3, .int (iI zz)), (4, .int (iI ((bnI left (fun k => d src k + tr d n (left - 2 ^ k) k) k : Nat) : Int))), (5, .int (iI (k : Int)))] : List (Nat × Value))) (show (mnb 1000000 left (fun k => d src k + tr d n (left - 2 ^ k) k) k : Int) = mnb 1000000 left (fun k => d src k + tr d n (left - 2 ^ k) k) (k + 1) from eb2.symm)) ?_
            refine KLvE (lv2 := [(0, .ref (q 2)), (1, .int (iI (src : Int))), (2, .int (iI (left : Int))), (3, .int (iI (mnb 1000000 left (fun k => d src k + tr d n (left - 2 ^ k) k) (k + 1)))), (4, .int (iI ((bnI left (fun k => d src k + tr d n (left - 2 ^ k) k) (k + 1) : Nat) : Int))), (5, .int (iI (k : Int)))]) (congrArg (fun zz : Int => ([(0, .ref (q 2)), (1, .int (iI (src : Int))), (2, .int (iI (left : Int))), (3, .int (iI (mnb 1000000 left (fun k => d src k + tr d n (left - 2 ^ k) k) (k + 1)))), (4, .int (iI zz)), (5, .int (iI (k : Int)))] : List (Nat × Value))) (show (((bnI left (fun k => d src k + tr d n (left - 2 ^ k) k) k : Nat) : Int) : Int) = ((bnI left (fun k => d src k + tr d n (left - 2 ^ k) k) (k + 1) : Nat) : Int) from (congrArg Nat.cast eb1.symm))) ?_
            refine KIinc (v := ((k + 1 : Nat) : Int)) (lv' := [(5, .int (iI ((k + 1 : Nat) : Int))), (0, .ref (q 2)), (1, .int (iI (src : Int))), (2, .int (iI (left : Int))), (3, .int (iI (mnb 1000000 left (fun k => d src k + tr d n (left - 2 ^ k) k) (k + 1)))), (4, .int (iI ((bnI left (fun k => d src k + tr d n (left - 2 ^ k) k) (k + 1) : Nat) : Int)))]) C dX2_bestNext_52 5 rfl (by omega) (by decide) rfl ?_
            refine KGoto (tgt := 9) C dX2_bestNext_55 (by decide) ?_
            refine KLv (lv' := [(0, .ref (q 2)), (1, .int (iI (src : Int))), (2, .int (iI (left : Int))), (3, .int (iI (mnb 1000000 left (fun k => d src k + tr d n (left - 2 ^ k) k) (k + 1)))), (4, .int (iI ((bnI left (fun k => d src k + tr d n (left - 2 ^ k) k) (k + 1) : Nat) : Int))), (5, .int (iI ((k + 1 : Nat) : Int)))]) [1, 2, 3, 4, 5, 0] rfl ?_
            exact ih9 (k + 1) (by omega) (by omega)
          · obtain ⟨eb1, eb2⟩ := bnI_t (k := k) (left := left) (g := (fun k => d src k + tr d n (left - 2 ^ k) k)) (by assumption) c36
            refine KAload_n C dX2_bestNext_39 rfl 0 rfl ?_
            refine KIload_n C dX2_bestNext_40 rfl 1 rfl ?_
            refine KIload C dX2_bestNext_41 5 rfl ?_
            refine KIload_n C dX2_bestNext_43 rfl 2 rfl ?_
            refine KCallV (As := [.int (iI (src : Int)), .int (iI (k : Int)), .int (iI (left : Int))]) (b := q 2) (st := []) C (ct_X2_lengthBy l g S q n d src k left hT hRt (by omega) (by omega) (by assumption) hl (hon.get (by omega) (by assumption))) u_ml_RX2_76 u_im_yX2_lengthBy u_se_yX2_lengthBy u_in_RX2 u_co_yX2_lengthBy hd_yX2_lengthBy (hT.at0 2 3) (by decide) rfl rfl ⟨Nat.le_of_ble_eq_true rfl, Nat.le_of_ble_eq_true rfl⟩ ⟨Nat.le_of_ble_eq_true rfl, Nat.le_of_ble_eq_true rfl⟩ (Nat.le_of_ble_eq_true rfl) dX2_bestNext_44 rfl (fun v44 u44 hp44 => ?_)
            obtain ⟨rfl, rfl⟩ := hp44
            refine KSt (st2 := [.int (iI (d src k + tr d n (left - 2 ^ k) k))]) rfl ?_
            refine KTop (congrArg iI (show d src k + tr d n (left - 2 ^ k) k = mnb 1000000 left (fun k => d src k + tr d n (left - 2 ^ k) k) (k + 1) from eb2.symm)) ?_
            refine KIstore_n (lv' := [(3, .int (iI (mnb 1000000 left (fun k => d src k + tr d n (left - 2 ^ k) k) (k + 1)))), (0, .ref (q 2)), (1, .int (iI (src : Int))), (2, .int (iI (left : Int))), (4, .int (iI ((bnI left (fun k => d src k + tr d n (left - 2 ^ k) k) k : Nat) : Int))), (5, .int (iI (k : Int)))]) C dX2_bestNext_47 rfl (by decide) rfl ?_
            refine KIload C dX2_bestNext_48 5 rfl ?_
            refine KTop (congrArg iI (show (k : Int) = ((bnI left (fun k => d src k + tr d n (left - 2 ^ k) k) (k + 1) : Nat) : Int) from (congrArg Nat.cast eb1.symm))) ?_
            refine KIstore (lv' := [(4, .int (iI ((bnI left (fun k => d src k + tr d n (left - 2 ^ k) k) (k + 1) : Nat) : Int))), (3, .int (iI (mnb 1000000 left (fun k => d src k + tr d n (left - 2 ^ k) k) (k + 1)))), (0, .ref (q 2)), (1, .int (iI (src : Int))), (2, .int (iI (left : Int))), (5, .int (iI (k : Int)))]) C dX2_bestNext_50 (by decide) rfl ?_
            refine KIinc (v := ((k + 1 : Nat) : Int)) (lv' := [(5, .int (iI ((k + 1 : Nat) : Int))), (4, .int (iI ((bnI left (fun k => d src k + tr d n (left - 2 ^ k) k) (k + 1) : Nat) : Int))), (3, .int (iI (mnb 1000000 left (fun k => d src k + tr d n (left - 2 ^ k) k) (k + 1)))), (0, .ref (q 2)), (1, .int (iI (src : Int))), (2, .int (iI (left : Int)))]) C dX2_bestNext_52 5 rfl (by omega) (by decide) rfl ?_
            refine KGoto (tgt := 9) C dX2_bestNext_55 (by decide) ?_
            refine KLv (lv' := [(0, .ref (q 2)), (1, .int (iI (src : Int))), (2, .int (iI (left : Int))), (3, .int (iI (mnb 1000000 left (fun k => d src k + tr d n (left - 2 ^ k) k) (k + 1)))), (4, .int (iI ((bnI left (fun k => d src k + tr d n (left - 2 ^ k) k) (k + 1) : Nat) : Int))), (5, .int (iI ((k + 1 : Nat) : Int)))]) [3, 4, 5, 2, 1, 0] rfl ?_
            exact ih9 (k + 1) (by omega) (by omega)
        · refine KSt (st2 := [.int (iI 0)]) rfl ?_
          obtain ⟨eb1, eb2⟩ := bnI_f (k := k) (left := left) (g := (fun k => d src k + tr d n (left - 2 ^ k) k)) (Or.inl b21)
          refine KLvE (lv2 := [(0, .ref (q 2)), (1, .int (iI (src : Int))), (2, .int (iI (left : Int))), (3, .int (iI (mnb 1000000 left (fun k => d src k + tr d n (left - 2 ^ k) k) (k + 1)))), (4, .int (iI ((bnI left (fun k => d src k + tr d n (left - 2 ^ k) k) k : Nat) : Int))), (5, .int (iI (k : Int)))]) (congrArg (fun zz : Int => ([(0, .ref (q 2)), (1, .int (iI (src : Int))), (2, .int (iI (left : Int))), (3, .int (iI zz)), (4, .int (iI ((bnI left (fun k => d src k + tr d n (left - 2 ^ k) k) k : Nat) : Int))), (5, .int (iI (k : Int)))] : List (Nat × Value))) (show (mnb 1000000 left (fun k => d src k + tr d n (left - 2 ^ k) k) k : Int) = mnb 1000000 left (fun k => d src k + tr d n (left - 2 ^ k) k) (k + 1) from eb2.symm)) ?_
          refine KLvE (lv2 := [(0, .ref (q 2)), (1, .int (iI (src : Int))), (2, .int (iI (left : Int))), (3, .int (iI (mnb 1000000 left (fun k => d src k + tr d n (left - 2 ^ k) k) (k + 1)))), (4, .int (iI ((bnI left (fun k => d src k + tr d n (left - 2 ^ k) k) (k + 1) : Nat) : Int))), (5, .int (iI (k : Int)))]) (congrArg (fun zz : Int => ([(0, .ref (q 2)), (1, .int (iI (src : Int))), (2, .int (iI (left : Int))), (3, .int (iI (mnb 1000000 left (fun k => d src k + tr d n (left - 2 ^ k) k) (k + 1)))), (4, .int (iI zz)), (5, .int (iI (k : Int)))] : List (Nat × Value))) (show (((bnI left (fun k => d src k + tr d n (left - 2 ^ k) k) k : Nat) : Int) : Int) = ((bnI left (fun k => d src k + tr d n (left - 2 ^ k) k) (k + 1) : Nat) : Int) from (congrArg Nat.cast eb1.symm))) ?_
          refine KIf_eq (tgt := 52) C dX2_bestNext_24 (by decide) ⟨by omega, by omega⟩ (fun _ => ?_) (fun h => absurd h (by decide))
          refine KIinc (v := ((k + 1 : Nat) : Int)) (lv' := [(5, .int (iI ((k + 1 : Nat) : Int))), (0, .ref (q 2)), (1, .int (iI (src : Int))), (2, .int (iI (left : Int))), (3, .int (iI (mnb 1000000 left (fun k => d src k + tr d n (left - 2 ^ k) k) (k + 1)))), (4, .int (iI ((bnI left (fun k => d src k + tr d n (left - 2 ^ k) k) (k + 1) : Nat) : Int)))]) C dX2_bestNext_52 5 rfl (by omega) (by decide) rfl ?_
          refine KGoto (tgt := 9) C dX2_bestNext_55 (by decide) ?_
          refine KLv (lv' := [(0, .ref (q 2)), (1, .int (iI (src : Int))), (2, .int (iI (left : Int))), (3, .int (iI (mnb 1000000 left (fun k => d src k + tr d n (left - 2 ^ k) k) (k + 1)))), (4, .int (iI ((bnI left (fun k => d src k + tr d n (left - 2 ^ k) k) (k + 1) : Nat) : Int))), (5, .int (iI ((k + 1 : Nat) : Int)))]) [1, 2, 3, 4, 5, 0] rfl ?_
          exact ih9 (k + 1) (by omega) (by omega)
  exact loop9 _ 0 (Nat.lt_succ_self _) (by omega)
