def P_X3_depth (S : Sto) (q : Nat → Nat) : Option Value → Sto → Prop := fun v u => v = some (.int (iI (sI S (q 1) 1 + 1))) ∧ S = u
set_option maxRecDepth 100000 in
set_option maxHeartbeats 4000000 in
theorem ct_X3_depth (l : Launch) (g : GG) (S : Sto) (q : Nat → Nat) (hT : Top S q) : MetS l g yX3_depth cX3_depth 1 (some FieldType.int) 1 0 0 [.ref (q 1)] S (P_X3_depth S q) := by
  refine MetS.of (own := RX3) (lv := [(0, .ref (q 1))]) (by decide) rfl (Nat.le_of_ble_eq_true rfl) rfl ?_
  intro pX eX sX mX argsX belowX methX cX C hin
  refine KRg (fun hR => ?_)
  refine KAload_n C dX3_depth_0 rfl 0 rfl ?_
  refine KGetI C ul_X3 rfl (by decide) 1 1 rfl (by decide) rfl u_fl_RX3_28 (hT.at0 1 4) (v := sI S (q 1) 1) rfl dX3_depth_1 (fun _ h => h) ?_
  have rb1 := hR.b (q 1) 1 (v := sI S (q 1) 1) rfl
  refine KIconst C dX3_depth_4 ?_
  refine KIadd C dX3_depth_5 ?_
  refine KIret C rfl rfl (by
    exact ⟨rfl, rfl⟩) (by decide) (by decide) dX3_depth_6
def P_X3_hasAisle (S : Sto) (q : Nat → Nat) (a : Int) : Option Value → Sto → Prop := fun v u => ((0 ≤ a ∧ a < sI S (q 1) 0) ∧ v = some (.int (iI 1)) ∨ ¬(0 ≤ a ∧ a < sI S (q 1) 0) ∧ v = some (.int (iI 0))) ∧ S = u
set_option maxRecDepth 100000 in
set_option maxHeartbeats 4000000 in
theorem ct_X3_hasAisle (l : Launch) (g : GG) (S : Sto) (q : Nat → Nat) (a : Int) (hT : Top S q) (ha : inR a) : MetS l g yX3_hasAisle cX3_hasAisle 2 (some FieldType.boolean) 1 0 0 [.ref (q 1), .int (iI a)] S (P_X3_hasAisle S q a) := by
  refine MetS.of (own := RX3) (lv := [(0, .ref (q 1)), (1, .int (iI a))]) (by decide) rfl (Nat.le_of_ble_eq_true rfl) rfl ?_
  intro pX eX sX mX argsX belowX methX cX C hin
  refine KRg (fun hR => ?_)
  obtain ⟨ha1, ha2⟩ := ha
  refine KIload_n C dX3_hasAisle_0 rfl 1 rfl ?_
  refine KIf_lt (tgt := 16) C dX3_hasAisle_1 (by decide) ⟨by omega, by omega⟩ (fun c1 => ?_) (fun c1 => ?_)
  · refine KIconst C dX3_hasAisle_16 ?_
    refine KIret C rfl rfl (by
      first | exact ⟨Or.inl ⟨by omega, rfl⟩, rfl⟩ | exact ⟨Or.inr ⟨by omega, rfl⟩, rfl⟩) (by decide) (by decide) dX3_hasAisle_17
  · refine KIload_n C dX3_hasAisle_4 rfl 1 rfl ?_
    refine KAload_n C dX3_hasAisle_5 rfl 0 rfl ?_
    refine KGetI C ul_X3 rfl (by decide) 0 0 rfl (by decide) rfl u_fl_RX3_24 (hT.at0 1 4) (v := sI S (q 1) 0) rfl dX3_hasAisle_6 (fun _ h => h) ?_
    have rb1 := hR.b (q 1) 0 (v := sI S (q 1) 0) rfl
    refine KIcmp_ge (tgt := 16) C dX3_hasAisle_9 (by decide) ⟨by omega, by omega⟩ ⟨by omega, by omega⟩ (fun c9 => ?_) (fun c9 => ?_)
    · refine KIconst C dX3_hasAisle_16 ?_
      refine KIret C rfl rfl (by
        first | exact ⟨Or.inl ⟨by omega, rfl⟩, rfl⟩ | exact ⟨Or.inr ⟨by omega, rfl⟩, rfl⟩) (by decide) (by decide) dX3_hasAisle_17
    · refine KIconst C dX3_hasAisle_12 ?_
      refine KGoto (tgt := 17) C dX3_hasAisle_13 (by decide) ?_
      refine KIret C rfl rfl (by
        first | exact ⟨Or.inl ⟨by omega, rfl⟩, rfl⟩ | exact ⟨Or.inr ⟨by omega, rfl⟩, rfl⟩) (by decide) (by decide) dX3_hasAisle_17
def P_X3_hasPosition (S : Sto) (q : Nat → Nat) (a : Int) : Option Value → Sto → Prop := fun v u => ((1 ≤ a ∧ a ≤ sI S (q 1) 1) ∧ v = some (.int (iI 1)) ∨ ¬(1 ≤ a ∧ a ≤ sI S (q 1) 1) ∧ v = some (.int (iI 0))) ∧ S = u
set_option maxRecDepth 100000 in
set_option maxHeartbeats 4000000 in
theorem ct_X3_hasPosition (l : Launch) (g : GG) (S : Sto) (q : Nat → Nat) (a : Int) (hT : Top S q) (ha : inR a) : MetS l g yX3_hasPosition cX3_hasPosition 2 (some FieldType.boolean) 1 0 0 [.ref (q 1), .int (iI a)] S (P_X3_hasPosition S q a) := by
  refine MetS.of (own := RX3) (lv := [(0, .ref (q 1)), (1, .int (iI a))]) (by decide) rfl (Nat.le_of_ble_eq_true rfl) rfl ?_
  intro pX eX sX mX argsX belowX methX cX C hin
  refine KRg (fun hR => ?_)
  obtain ⟨ha1, ha2⟩ := ha
  refine KIload_n C dX3_hasPosition_0 rfl 1 rfl ?_
  refine KIconst C dX3_hasPosition_1 ?_
  refine KIcmp_lt (tgt := 17) C dX3_hasPosition_2 (by decide) ⟨by omega, by omega⟩ ⟨by omega, by omega⟩ (fun c2 => ?_) (fun c2 => ?_)
  · refine KIconst C dX3_hasPosition_17 ?_
    refine KIret C rfl rfl (by
      first | exact ⟨Or.inl ⟨by omega, rfl⟩, rfl⟩ | exact ⟨Or.inr ⟨by omega, rfl⟩, rfl⟩) (by decide) (by decide) dX3_hasPosition_18
  · refine KIload_n C dX3_hasPosition_5 rfl 1 rfl ?_
    refine KAload_n C dX3_hasPosition_6 rfl 0 rfl ?_
    refine KGetI C ul_X3 rfl (by decide) 1 1 rfl (by decide) rfl u_fl_RX3_28 (hT.at0 1 4) (v := sI S (q 1) 1) rfl dX3_hasPosition_7 (fun _ h => h) ?_
    have rb1 := hR.b (q 1) 1 (v := sI S (q 1) 1) rfl
    refine KIcmp_gt (tgt := 17) C dX3_hasPosition_10 (by decide) ⟨by omega, by omega⟩ ⟨by omega, by omega⟩ (fun c10 => ?_) (fun c10 => ?_)
    · refine KIconst C dX3_hasPosition_17 ?_
      refine KIret C rfl rfl (by
        first | exact ⟨Or.inl ⟨by omega, rfl⟩, rfl⟩ | exact ⟨Or.inr ⟨by omega, rfl⟩, rfl⟩) (by decide) (by decide) dX3_hasPosition_18
    · refine KIconst C dX3_hasPosition_13 ?_
      refine KGoto (tgt := 18) C dX3_hasPosition_14 (by decide) ?_
      refine KIret C rfl rfl (by
        first | exact ⟨Or.inl ⟨by omega, rfl⟩, rfl⟩ | exact ⟨Or.inr ⟨by omega, rfl⟩, rfl⟩) (by decide) (by decide) dX3_hasPosition_18
def P_X3_productAt (S : Sto) (q : Nat → Nat) (x : Int) : Option Value → Sto → Prop := fun v u => v = some (.int (iI (firstAt (sI S (q 6)) x 20))) ∧ S = u
set_option maxRecDepth 100000 in
set_option maxHeartbeats 4000000 in
theorem ct_X3_productAt (l : Launch) (g : GG) (S : Sto) (q : Nat → Nat) (x : Int) (hT : Top S q) (hx : inR x) : MetS l g yX3_productAt cX3_productAt 3 (some FieldType.int) 1 0 0 [.ref (q 1), .int (iI x)] S (P_X3_productAt S q x) := by
  refine MetS.of (own := RX3) (lv := [(0, .ref (q 1)), (1, .int (iI x))]) (by decide) rfl (Nat.le_of_ble_eq_true rfl) rfl ?_
  intro pX eX sX mX argsX belowX methX cX C hin
  refine KRg (fun hR => ?_)
  obtain ⟨hx1, hx2⟩ := hx
  refine KIconst C dX3_productAt_0 ?_
  refine KIstore_n (lv' := [(2, .int (iI 0)), (0, .ref (q 1)), (1, .int (iI x))]) C dX3_productAt_1 rfl (by decide) rfl ?_
  refine KLv (lv' := [(0, .ref (q 1)), (1, .int (iI x)), (2, .int (iI 0))]) [1, 2, 0] rfl ?_
  have loop2 : ∀ (nX : Nat) (i : Nat), 20 - i < nX → (i ≤ 20) → (∀ j : Int, 0 ≤ j → j < i → sI S (q 6) j ≠ x) → Wk pX l eX (rmK 1 0 0) sX mX argsX belowX methX cX (MQ belowX (QcG g (P_X3_productAt S q x)) argsX sX 0 0 (ge (gB g))) g 3 0 0 2 [(0, .ref (q 1)), (1, .int (iI x)), (2, .int (iI (i : Int)))] [] S := by
    intro nX
    induction nX with
    | zero => intro i hm; exact absurd hm (Nat.not_lt_zero _)
    | succ nX ih2 =>
      intro i hm2 hi hno
      refine KRg (fun hR => ?_)
      refine KIload_n C dX3_productAt_2 rfl 2 rfl ?_
      refine KBipush C dX3_productAt_3 (by decide) ?_
      refine KIcmp_ge (tgt := 26) C dX3_productAt_5 (by decide) ⟨by omega, by omega⟩ ⟨by omega, by omega⟩ (fun c5 => ?_) (fun c5 => ?_)
      · refine KIconst C dX3_productAt_26 ?_
        refine KIret C rfl rfl (by
          exact ⟨by rw [firstAt_no (fun j a b => hno j a (by omega))], rfl⟩) (by decide) (by decide) dX3_productAt_27
      · refine KAload_n C dX3_productAt_8 rfl 0 rfl ?_
        refine KGetR C ul_X3 rfl (by decide) 3 3 rfl (by decide) rfl u_fl_RX3_9 (hT.at0 1 4) (b := q 6) (hT.ptr 1 3 6) dX3_productAt_9 (fun _ h => h) ?_
        refine KIload_n C dX3_productAt_12 rfl 2 rfl ?_
        refine KIald  (v := sI S (q 6) (i : Int)) C 20 (hT.at0 6 20) (hT.ln0 6 20) ⟨by omega, by omega⟩ (by omega) rfl dX3_productAt_13 ?_
        have rb1 := hR.b (q 6) (i : Int) (v := sI S (q 6) (i : Int)) rfl
        refine KIload_n C dX3_productAt_14 rfl 1 rfl ?_
        refine KIcmp_ne (tgt := 20) C dX3_productAt_15 (by decide) ⟨by omega, by omega⟩ ⟨by omega, by omega⟩ (fun c15 => ?_) (fun c15 => ?_)
        · refine KIinc (v := ((i + 1 : Nat) : Int)) (lv' := [(2, .int (iI ((i + 1 : Nat) : Int))), (0, .ref (q 1)), (1, .int (iI x))]) C dX3_productAt_20 2 rfl (by omega) (by decide) rfl ?_
          refine KGoto (tgt := 2) C dX3_productAt_23 (by decide) ?_
          refine KLv (lv' := [(0, .ref (q 1)), (1, .int (iI x)), (2, .int (iI ((i + 1 : Nat) : Int)))]) [1, 2, 0] rfl ?_
          exact ih2 (i + 1) (by omega) (by omega) (fun j a b => if e : j = i then e ▸ c15 else hno j a (by omega))
        · refine KIload_n C dX3_productAt_18 rfl 2 rfl ?_
          refine KIret C rfl rfl (by
            exact ⟨by rw [firstAt_yes hno c15 (by omega)], rfl⟩) (by decide) (by decide) dX3_productAt_19
  exact loop2 _ 0 (Nat.lt_succ_self _) (by omega) (fun j a b => by omega)
def P_X3_between (S : Sto) (q : Nat → Nat) (x : Int) (y : Int) : Option Value → Sto → Prop := fun v u => v = some (.int (iI (dst (sI S (q 1) 1) (sI S (q 1) 2) x y))) ∧ S = u
set_option maxRecDepth 100000 in
set_option maxHeartbeats 4000000 in
theorem ct_X3_between (l : Launch) (g : GG) (S : Sto) (q : Nat → Nat) (x : Int) (y : Int) (hT : Top S q) (hCf : Cf S q) (hx : 0 ≤ x ∧ x ≤ 1000) (hy : 0 ≤ y ∧ y ≤ 1000) : MetS l g yX3_between cX3_between 8 (some FieldType.int) 2 0 0 [.ref (q 1), .int (iI x), .int (iI y)] S (P_X3_between S q x y) := by
  refine MetS.of (own := RX3) (lv := [(0, .ref (q 1)), (1, .int (iI x)), (2, .int (iI y))]) (by decide) rfl (Nat.le_of_ble_eq_true rfl) rfl ?_
  intro pX eX sX mX argsX belowX methX cX C hin
  refine KRg (fun hR => ?_)
  obtain ⟨hA1, hA2, hN1, hN2, hG1, hG2⟩ := id hCf
  refine KIload_n C dX3_between_0 rfl 1 rfl ?_
  refine KBipush C dX3_between_1 (by decide) ?_
  refine KIrem (z := x % 100) C dX3_between_3 ⟨by omega, by omega⟩ ⟨by omega, by omega⟩ (by omega) (tmod_pos (by omega)) ?_
  refine KIstore_n (lv' := [(3, .int (iI (x % 100))), (0, .ref (q 1)), (1, .int (iI x)), (2, .int (iI y))]) C dX3_between_4 rfl (by decide) rfl ?_
  refine KIload_n C dX3_between_5 rfl 3 rfl ?_
  refine KBipush C dX3_between_6 (by decide) ?_
  refine KIrem (z := y % 100) C dX3_between_8 ⟨by omega, by omega⟩ ⟨by omega, by omega⟩ (by omega) (tmod_pos (by omega)) ?_
  refine KIstore (lv' := [(4, .int (iI (y % 100))), (3, .int (iI (x % 100))), (0, .ref (q 1)), (1, .int (iI x)), (2, .int (iI y))]) C dX3_between_9 (by decide) rfl ?_
  refine KIload_n C dX3_between_11 rfl 3 rfl ?_
  refine KBipush C dX3_between_12 (by decide) ?_
  refine KIdiv (z := x / 100) C dX3_between_14 ⟨by omega, by omega⟩ ⟨by omega, by omega⟩ (by omega) (tdiv_pos (by omega)) ?_
  refine KIload_n C dX3_between_15 rfl 4 rfl ?_
  refine KBipush C dX3_between_16 (by decide) ?_
  refine KIdiv (z := y / 100) C dX3_between_18 ⟨by omega, by omega⟩ ⟨by omega, by omega⟩ (by omega) (tdiv_pos (by omega)) ?_
  refine KIsub C dX3_between_19 ?_
  refine KMabs (z := absI ((x / 100) - (y / 100))) C ⟨by omega, by omega⟩ rfl u_ml_RX3_34 u_st_yJ9_abs_0f7a4 u_in_RJ9 u_co_yJ9_abs_0f7a4 ⟨Nat.le_of_ble_eq_true rfl, Nat.le_of_ble_eq_true rfl⟩ ⟨Nat.le_of_ble_eq_true rfl, Nat.le_of_ble_eq_true rfl⟩ dX3_between_20 ?_
  have mb1 := absI_b ((x / 100) - (y / 100))
  refine KIstore (lv' := [(5, .int (iI (absI ((x / 100) - (y / 100))))), (4, .int (iI (y % 100))), (3, .int (iI (x % 100))), (0, .ref (q 1)), (1, .int (iI x)), (2, .int (iI y))]) C dX3_between_23 (by decide) rfl ?_
  refine KIload C dX3_between_25 0 rfl ?_
  refine KIf_ne (tgt := 38) C dX3_between_27 (by decide) ⟨by omega, by omega⟩ (fun c27 => ?_) (fun c27 => ?_)
  · refine KIload_n C dX3_between_38 rfl 2 rfl ?_
    refine KIload C dX3_between_39 1 rfl ?_
    refine KIadd C dX3_between_41 ?_
    refine KIstore (lv' := [(6, .int (iI ((x % 100) + (y % 100)))), (5, .int (iI (absI ((x / 100) - (y / 100))))), (4, .int (iI (y % 100))), (3, .int (iI (x % 100))), (0, .ref (q 1)), (1, .int (iI x)), (2, .int (iI y))]) C dX3_between_42 (by decide) rfl ?_
    refine KIconst C dX3_between_44 ?_
    refine KAload_n C dX3_between_45 rfl 4 rfl ?_
    refine KCallV (As := []) (b := q 1) (st := [.int (iI 2)]) C (ct_X3_depth l g S q hT) u_ml_RX3_40 u_im_yX3_depth u_se_yX3_depth u_in_RX3 u_co_yX3_depth hd_yX3_depth (hT.at0 1 4) (by decide) rfl rfl ⟨Nat.le_of_ble_eq_true rfl, Nat.le_of_ble_eq_true rfl⟩ ⟨Nat.le_of_ble_eq_true rfl, Nat.le_of_ble_eq_true rfl⟩ (Nat.le_of_ble_eq_true rfl) dX3_between_46 rfl (fun v46 u46 hp46 => ?_)
    obtain ⟨rfl, rfl⟩ := hp46
    refine KSt (st2 := [.int (iI (sI S (q 1) 1 + 1)), .int (iI 2)]) rfl ?_
    refine KImul C dX3_between_49 ?_
    refine KIload C dX3_between_50 0 rfl ?_
    refine KIsub C dX3_between_52 ?_
    refine KIstore (lv' := [(7, .int (iI ((2 * (sI S (q 1) 1 + 1)) - ((x % 100) + (y % 100))))), (6, .int (iI ((x % 100) + (y % 100)))), (5, .int (iI (absI ((x / 100) - (y / 100))))), (4, .int (iI (y % 100))), (3, .int (iI (x % 100))), (0, .ref (q 1)), (1, .int (iI x)), (2, .int (iI y))]) C dX3_between_53 (by decide) rfl ?_
    refine KIload C dX3_between_55 2 rfl ?_
    refine KAload_n C dX3_between_57 rfl 5 rfl ?_
    refine KGetI C ul_X3 rfl (by decide) 2 2 rfl (by decide) rfl u_fl_RX3_31 (hT.at0 1 4) (v := sI S (q 1) 2) rfl dX3_between_58 (fun _ h => h) ?_
    have rb2 := hR.b (q 1) 2 (v := sI S (q 1) 2) rfl
    refine KImul C dX3_between_61 ?_
    refine KIload C dX3_between_62 1 rfl ?_
    refine KIload C dX3_between_64 0 rfl ?_
    refine KMmin (z := minI ((x % 100) + (y % 100)) ((2 * (sI S (q 1) 1 + 1)) - ((x % 100) + (y % 100)))) C ⟨by omega, by omega⟩ ⟨by omega, by omega⟩ rfl u_ml_RX3_44 u_st_yJ9_min_7cf53 u_in_RJ9 u_co_yJ9_min_7cf53 ⟨Nat.le_of_ble_eq_true rfl, Nat.le_of_ble_eq_true rfl⟩ ⟨Nat.le_of_ble_eq_true rfl, Nat.le_of_ble_eq_true rfl⟩ dX3_between_66 ?_
    have mb3 := minI_b ((x % 100) + (y % 100)) ((2 * (sI S (q 1) 1 + 1)) - ((x % 100) + (y % 100)))
    refine KIadd C dX3_between_69 ?_
    refine KIret C rfl rfl (by
      refine ⟨?_, rfl⟩
      unfold dst
      first | rw [if_pos (by assumption)] | rw [if_neg (by assumption)]) (by decide) (by decide) dX3_between_70
  · refine KIload_n C dX3_between_30 rfl 2 rfl ?_
    refine KIload C dX3_between_31 1 rfl ?_
    refine KIsub C dX3_between_33 ?_
    refine KMabs (z := absI ((x % 100) - (y % 100))) C ⟨by omega, by omega⟩ rfl u_ml_RX3_34 u_st_yJ9_abs_0f7a4 u_in_RJ9 u_co_yJ9_abs_0f7a4 ⟨Nat.le_of_ble_eq_true rfl, Nat.le_of_ble_eq_true rfl⟩ ⟨Nat.le_of_ble_eq_true rfl, Nat.le_of_ble_eq_true rfl⟩ dX3_between_34 ?_
    have mb4 := absI_b ((x % 100) - (y % 100))
    refine KIret C rfl rfl (by
      refine ⟨?_, rfl⟩
      unfold dst
      first | rw [if_pos (by assumption)] | rw [if_neg (by assumption)]) (by decide) (by decide) dX3_between_37
def P_X3_move (S : Sto) (q : Nat → Nat) (a : Int) (x : Int) : Option Value → Sto → Prop := fun v u => v = some (.int (iI (sI S (q 6) a))) ∧ u = uI S (q 6) a x
set_option maxRecDepth 100000 in
set_option maxHeartbeats 4000000 in
theorem ct_X3_move (l : Launch) (g : GG) (S : Sto) (q : Nat → Nat) (a : Int) (x : Int) (hT : Top S q) (ha : 0 ≤ a ∧ a < 20) (hx : inR x) : MetS l g yX3_move cX3_move 4 (some FieldType.int) 1 0 0 [.ref (q 1), .int (iI a), .int (iI x)] S (P_X3_move S q a x) := by
  refine MetS.of (own := RX3) (lv := [(0, .ref (q 1)), (1, .int (iI a)), (2, .int (iI x))]) (by decide) rfl (Nat.le_of_ble_eq_true rfl) rfl ?_
  intro pX eX sX mX argsX belowX methX cX C hin
  refine KRg (fun hR => ?_)
  obtain ⟨hx1, hx2⟩ := hx
  refine KAload_n C dX3_move_0 rfl 0 rfl ?_
  refine KGetR C ul_X3 rfl (by decide) 3 3 rfl (by decide) rfl u_fl_RX3_9 (hT.at0 1 4) (b := q 6) (hT.ptr 1 3 6) dX3_move_1 (fun _ h => h) ?_
  refine KIload_n C dX3_move_4 rfl 1 rfl ?_
  refine KIald  (v := sI S (q 6) a) C 20 (hT.at0 6 20) (hT.ln0 6 20) ⟨by omega, by omega⟩ (by omega) rfl dX3_move_5 ?_
  have rb1 := hR.b (q 6) a (v := sI S (q 6) a) rfl
  refine KIstore_n (lv' := [(3, .int (iI (sI S (q 6) a))), (0, .ref (q 1)), (1, .int (iI a)), (2, .int (iI x))]) C dX3_move_6 rfl (by decide) rfl ?_
  refine KAload_n C dX3_move_7 rfl 1 rfl ?_
  refine KGetR C ul_X3 rfl (by decide) 3 3 rfl (by decide) rfl u_fl_RX3_9 (hT.at0 1 4) (b := q 6) (hT.ptr 1 3 6) dX3_move_8 (fun _ h => h) ?_
  refine KIload_n C dX3_move_11 rfl 2 rfl ?_
  refine KIload_n C dX3_move_12 rfl 3 rfl ?_
  refine KIast C 20 (hT.at0 6 20) (hT.ln0 6 20) ⟨by omega, by omega⟩ (by omega) ⟨by omega, by omega⟩ dX3_move_13 ?_
  refine KIload_n C dX3_move_14 rfl 0 rfl ?_
  refine KIret C rfl rfl (by
    exact ⟨rfl, rfl⟩) (by decide) (by decide) dX3_move_15
