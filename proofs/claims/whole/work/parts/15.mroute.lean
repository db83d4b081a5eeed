def P_X6_fails (S : Sto) (q : Nat → Nat) (x : Int) : Option Value → Sto → Prop := fun v u => v = some (.int (iI 0)) ∧ u = uI S (q 80) 0 x
set_option maxRecDepth 100000 in
set_option maxHeartbeats 4000000 in
theorem ct_X6_fails (l : Launch) (g : GG) (S : Sto) (q : Nat → Nat) (x : Int) (hT : Top S q) (hx : 0 ≤ x ∧ x ≤ 9) : MetS l g yX6_fails cX6_fails 2 (some FieldType.int) 1 0 0 [.ref (q 80), .int (iI x)] S (P_X6_fails S q x) := by
  refine MetS.of (own := RX6) (lv := [(0, .ref (q 80)), (1, .int (iI x))]) (by decide) rfl (Nat.le_of_ble_eq_true rfl) rfl ?_
  intro pX eX sX mX argsX belowX methX cX C hin
  refine KRg (fun hR => ?_)
  refine KAload_n C dX6_fails_0 rfl 0 rfl ?_
  refine KIload_n C dX6_fails_1 rfl 1 rfl ?_
  refine KPutI (ty := .int) (v := x) C ul_X6 rfl (by decide) 0 0 rfl (by decide) rfl u_fl_RX6_59 tyX6 tyX6_ok nmX6 (hT.at0 80 7) ⟨by omega, by omega⟩ (by decide +kernel) rfl rfl rfl dX6_fails_2 (fun _ h => h) ?_
  refine KIconst C dX6_fails_5 ?_
  refine KIret C rfl rfl (by
    exact ⟨rfl, rfl⟩) (by decide) (by decide) dX6_fails_6
def P_X6_in (S : Sto) (x : Int) (lo : Int) (hi : Int) : Option Value → Sto → Prop := fun v u => ((lo ≤ x ∧ x ≤ hi) ∧ v = some (.int (iI 1)) ∨ ¬(lo ≤ x ∧ x ≤ hi) ∧ v = some (.int (iI 0))) ∧ S = u
set_option maxRecDepth 100000 in
set_option maxHeartbeats 4000000 in
theorem ct_X6_in (l : Launch) (g : GG) (S : Sto) (x : Int) (lo : Int) (hi : Int) (h1 : inR x) (h2 : inR lo) (h3 : inR hi) : MetS l g yX6_in cX6_in 3 (some FieldType.boolean) 1 0 0 [.int (iI x), .int (iI lo), .int (iI hi)] S (P_X6_in S x lo hi) := by
  refine MetS.of (own := RX6) (lv := [(0, .int (iI x)), (1, .int (iI lo)), (2, .int (iI hi))]) (by decide) rfl (Nat.le_of_ble_eq_true rfl) rfl ?_
  intro pX eX sX mX argsX belowX methX cX C hin
  refine KRg (fun hR => ?_)
  obtain ⟨h1a, h1b⟩ := h1
  obtain ⟨h2a, h2b⟩ := h2
  obtain ⟨h3a, h3b⟩ := h3
  refine KIload_n C dX6_in_0 rfl 0 rfl ?_
  refine KIload_n C dX6_in_1 rfl 1 rfl ?_
  refine KIcmp_lt (tgt := 14) C dX6_in_2 (by decide) ⟨by omega, by omega⟩ ⟨by omega, by omega⟩ (fun c2 => ?_) (fun c2 => ?_)
  · refine KIconst C dX6_in_14 ?_
    refine KIret C rfl rfl (by
      first | exact ⟨Or.inl ⟨by omega, rfl⟩, rfl⟩ | exact ⟨Or.inr ⟨by omega, rfl⟩, rfl⟩) (by decide) (by decide) dX6_in_15
  · refine KIload_n C dX6_in_5 rfl 0 rfl ?_
    refine KIload_n C dX6_in_6 rfl 2 rfl ?_
    refine KIcmp_gt (tgt := 14) C dX6_in_7 (by decide) ⟨by omega, by omega⟩ ⟨by omega, by omega⟩ (fun c7 => ?_) (fun c7 => ?_)
    · refine KIconst C dX6_in_14 ?_
      refine KIret C rfl rfl (by
        first | exact ⟨Or.inl ⟨by omega, rfl⟩, rfl⟩ | exact ⟨Or.inr ⟨by omega, rfl⟩, rfl⟩) (by decide) (by decide) dX6_in_15
    · refine KIconst C dX6_in_10 ?_
      refine KGoto (tgt := 15) C dX6_in_11 (by decide) ?_
      refine KIret C rfl rfl (by
        first | exact ⟨Or.inl ⟨by omega, rfl⟩, rfl⟩ | exact ⟨Or.inr ⟨by omega, rfl⟩, rfl⟩) (by decide) (by decide) dX6_in_15
def P_X6_isProduct (S : Sto) (x : Int) : Option Value → Sto → Prop := fun v u => ((0 ≤ x ∧ x ≤ 19) ∧ v = some (.int (iI 1)) ∨ ¬(0 ≤ x ∧ x ≤ 19) ∧ v = some (.int (iI 0))) ∧ S = u
set_option maxRecDepth 100000 in
set_option maxHeartbeats 4000000 in
theorem ct_X6_isProduct (l : Launch) (g : GG) (S : Sto) (x : Int) (h1 : inR x) : MetS l g yX6_isProduct cX6_isProduct 1 (some FieldType.boolean) 2 0 0 [.int (iI x)] S (P_X6_isProduct S x) := by
  refine MetS.of (own := RX6) (lv := [(0, .int (iI x))]) (by decide) rfl (Nat.le_of_ble_eq_true rfl) rfl ?_
  intro pX eX sX mX argsX belowX methX cX C hin
  refine KRg (fun hR => ?_)
  obtain ⟨h1a, h1b⟩ := h1
  refine KIload_n C dX6_isProduct_0 rfl 0 rfl ?_
  refine KIconst C dX6_isProduct_1 ?_
  refine KBipush C dX6_isProduct_2 (by decide) ?_
  refine KCallS (As := [.int (iI x), .int (iI 0), .int (iI 19)]) (st := []) C (ct_X6_in l g S x 0 19 (⟨by omega, by omega⟩) (⟨by omega, by omega⟩) (⟨by omega, by omega⟩)) u_ml_RX6_62 u_st_yX6_in u_in_RX6 u_co_yX6_in hd_yX6_in ⟨Nat.le_of_ble_eq_true rfl, Nat.le_of_ble_eq_true rfl⟩ ⟨Nat.le_of_ble_eq_true rfl, Nat.le_of_ble_eq_true rfl⟩ (Nat.le_of_ble_eq_true rfl) dX6_isProduct_4 rfl (fun v4 u4 hp4 => ?_)
  obtain ⟨⟨b4, rfl⟩ | ⟨b4, rfl⟩, rfl⟩ := hp4
  · refine KSt (st2 := [.int (iI 1)]) rfl ?_
    refine KIret C rfl rfl (by
      first | exact ⟨Or.inl ⟨by omega, rfl⟩, rfl⟩ | exact ⟨Or.inr ⟨by omega, rfl⟩, rfl⟩) (by decide) (by decide) dX6_isProduct_7
  · refine KSt (st2 := [.int (iI 0)]) rfl ?_
    refine KIret C rfl rfl (by
      first | exact ⟨Or.inl ⟨by omega, rfl⟩, rfl⟩ | exact ⟨Or.inr ⟨by omega, rfl⟩, rfl⟩) (by decide) (by decide) dX6_isProduct_7
def P_X6_isOrder (S : Sto) (q : Nat → Nat) (x : Int) : Option Value → Sto → Prop := fun v u => ((0 ≤ x ∧ x ≤ sI S (q 80) 6 - 1) ∧ v = some (.int (iI 1)) ∨ ¬(0 ≤ x ∧ x ≤ sI S (q 80) 6 - 1) ∧ v = some (.int (iI 0))) ∧ S = u
set_option maxRecDepth 100000 in
set_option maxHeartbeats 4000000 in
theorem ct_X6_isOrder (l : Launch) (g : GG) (S : Sto) (q : Nat → Nat) (x : Int) (hT : Top S q) (h1 : inR x) (h4 : 0 ≤ sI S (q 80) 6) : MetS l g yX6_isOrder cX6_isOrder 2 (some FieldType.boolean) 2 0 0 [.ref (q 80), .int (iI x)] S (P_X6_isOrder S q x) := by
  refine MetS.of (own := RX6) (lv := [(0, .ref (q 80)), (1, .int (iI x))]) (by decide) rfl (Nat.le_of_ble_eq_true rfl) rfl ?_
  intro pX eX sX mX argsX belowX methX cX C hin
  refine KRg (fun hR => ?_)
  obtain ⟨h1a, h1b⟩ := h1
  refine KIload_n C dX6_isOrder_0 rfl 1 rfl ?_
  refine KIconst C dX6_isOrder_1 ?_
  refine KAload_n C dX6_isOrder_2 rfl 0 rfl ?_
  refine KGetI C ul_X6 rfl (by decide) 6 6 rfl (by decide) rfl u_fl_RX6_66 (hT.at0 80 7) (v := sI S (q 80) 6) rfl dX6_isOrder_3 (fun _ h => h) ?_
  have rb1 := hR.b (q 80) 6 (v := sI S (q 80) 6) rfl
  refine KIconst C dX6_isOrder_6 ?_
  refine KIsub C dX6_isOrder_7 ?_
  refine KCallS (As := [.int (iI x), .int (iI 0), .int (iI ((sI S (q 80) 6) - 1))]) (st := []) C (ct_X6_in l g S x 0 ((sI S (q 80) 6) - 1) (⟨by omega, by omega⟩) (⟨by omega, by omega⟩) (⟨by omega, by omega⟩)) u_ml_RX6_62 u_st_yX6_in u_in_RX6 u_co_yX6_in hd_yX6_in ⟨Nat.le_of_ble_eq_true rfl, Nat.le_of_ble_eq_true rfl⟩ ⟨Nat.le_of_ble_eq_true rfl, Nat.le_of_ble_eq_true rfl⟩ (Nat.le_of_ble_eq_true rfl) dX6_isOrder_8 rfl (fun v8 u8 hp8 => ?_)
  obtain ⟨⟨b8, rfl⟩ | ⟨b8, rfl⟩, rfl⟩ := hp8
  · refine KSt (st2 := [.int (iI 1)]) rfl ?_
    refine KIret C rfl rfl (by
      first | exact ⟨Or.inl ⟨by omega, rfl⟩, rfl⟩ | exact ⟨Or.inr ⟨by omega, rfl⟩, rfl⟩) (by decide) (by decide) dX6_isOrder_11
  · refine KSt (st2 := [.int (iI 0)]) rfl ?_
    refine KIret C rfl rfl (by
      first | exact ⟨Or.inl ⟨by omega, rfl⟩, rfl⟩ | exact ⟨Or.inr ⟨by omega, rfl⟩, rfl⟩) (by decide) (by decide) dX6_isOrder_11
def P_X6_isBatch (S : Sto) (q : Nat → Nat) (x : Int) : Option Value → Sto → Prop := fun v u => ((0 ≤ x ∧ x ≤ sI S (q 80) 13 - 1) ∧ v = some (.int (iI 1)) ∨ ¬(0 ≤ x ∧ x ≤ sI S (q 80) 13 - 1) ∧ v = some (.int (iI 0))) ∧ S = u
set_option maxRecDepth 100000 in
set_option maxHeartbeats 4000000 in
theorem ct_X6_isBatch (l : Launch) (g : GG) (S : Sto) (q : Nat → Nat) (x : Int) (hT : Top S q) (h1 : inR x) (h4 : 0 ≤ sI S (q 80) 13) : MetS l g yX6_isBatch cX6_isBatch 2 (some FieldType.boolean) 2 0 0 [.ref (q 80), .int (iI x)] S (P_X6_isBatch S q x) := by
  refine MetS.of (own := RX6) (lv := [(0, .ref (q 80)), (1, .int (iI x))]) (by decide) rfl (Nat.le_of_ble_eq_true rfl) rfl ?_
  intro pX eX sX mX argsX belowX methX cX C hin
  refine KRg (fun hR => ?_)
  obtain ⟨h1a, h1b⟩ := h1
  refine KIload_n C dX6_isBatch_0 rfl 1 rfl ?_
  refine KIconst C dX6_isBatch_1 ?_
  refine KAload_n C dX6_isBatch_2 rfl 0 rfl ?_
  refine KGetI C ul_X6 rfl (by decide) 13 13 rfl (by decide) rfl u_fl_RX6_69 (hT.at0 80 7) (v := sI S (q 80) 13) rfl dX6_isBatch_3 (fun _ h => h) ?_
  have rb1 := hR.b (q 80) 13 (v := sI S (q 80) 13) rfl
  refine KIconst C dX6_isBatch_6 ?_
  refine KIsub C dX6_isBatch_7 ?_
  refine KCallS (As := [.int (iI x), .int (iI 0), .int (iI ((sI S (q 80) 13) - 1))]) (st := []) C (ct_X6_in l g S x 0 ((sI S (q 80) 13) - 1) (⟨by omega, by omega⟩) (⟨by omega, by omega⟩) (⟨by omega, by omega⟩)) u_ml_RX6_62 u_st_yX6_in u_in_RX6 u_co_yX6_in hd_yX6_in ⟨Nat.le_of_ble_eq_true rfl, Nat.le_of_ble_eq_true rfl⟩ ⟨Nat.le_of_ble_eq_true rfl, Nat.le_of_ble_eq_true rfl⟩ (Nat.le_of_ble_eq_true rfl) dX6_isBatch_8 rfl (fun v8 u8 hp8 => ?_)
  obtain ⟨⟨b8, rfl⟩ | ⟨b8, rfl⟩, rfl⟩ := hp8
  · refine KSt (st2 := [.int (iI 1)]) rfl ?_
    refine KIret C rfl rfl (by
      first | exact ⟨Or.inl ⟨by omega, rfl⟩, rfl⟩ | exact ⟨Or.inr ⟨by omega, rfl⟩, rfl⟩) (by decide) (by decide) dX6_isBatch_11
  · refine KSt (st2 := [.int (iI 0)]) rfl ?_
    refine KIret C rfl rfl (by
      first | exact ⟨Or.inl ⟨by omega, rfl⟩, rfl⟩ | exact ⟨Or.inr ⟨by omega, rfl⟩, rfl⟩) (by decide) (by decide) dX6_isBatch_11
def P_X6_way (S : Sto) (q : Nat → Nat) (x : Int) (y : Int) : Option Value → Sto → Prop := fun v u => v = some (.int (iI (dst (sI S (q 80) 2) (sI S (q 80) 3) x y))) ∧ S = u
set_option maxRecDepth 100000 in
set_option maxHeartbeats 4000000 in
theorem ct_X6_way (l : Launch) (g : GG) (S : Sto) (q : Nat → Nat) (x : Int) (y : Int) (hT : Top S q) (hCm : CfM S q) (hx : 0 ≤ x ∧ x ≤ 1000) (hy : 0 ≤ y ∧ y ≤ 1000) : MetS l g yX6_way cX6_way 8 (some FieldType.int) 1 0 0 [.ref (q 80), .int (iI x), .int (iI y)] S (P_X6_way S q x y) := by
  refine MetS.of (own := RX6) (lv := [(0, .ref (q 80)), (1, .int (iI x)), (2, .int (iI y))]) (by decide) rfl (Nat.le_of_ble_eq_true rfl) rfl ?_
  intro pX eX sX mX argsX belowX methX cX C hin
  refine KRg (fun hR => ?_)
  obtain ⟨hA1, hA2, hN1, hN2, hG1, hG2⟩ := id hCm
  refine KIload_n C dX6_way_0 rfl 1 rfl ?_
  refine KBipush C dX6_way_1 (by decide) ?_
  refine KIdiv (z := x / 100) C dX6_way_3 ⟨by omega, by omega⟩ ⟨by omega, by omega⟩ (by omega) (tdiv_pos (by omega)) ?_
  refine KIload_n C dX6_way_4 rfl 2 rfl ?_
  refine KBipush C dX6_way_5 (by decide) ?_
  refine KIdiv (z := y / 100) C dX6_way_7 ⟨by omega, by omega⟩ ⟨by omega, by omega⟩ (by omega) (tdiv_pos (by omega)) ?_
  refine KIsub C dX6_way_8 ?_
  refine KIstore_n (lv' := [(3, .int (iI ((x / 100) - (y / 100)))), (0, .ref (q 80)), (1, .int (iI x)), (2, .int (iI y))]) C dX6_way_9 rfl (by decide) rfl ?_
  refine KIload_n C dX6_way_10 rfl 2 rfl ?_
  refine KBipush C dX6_way_11 (by decide) ?_
  refine KIrem (z := x % 100) C dX6_way_13 ⟨by omega, by omega⟩ ⟨by omega, by omega⟩ (by omega) (tmod_pos (by omega)) ?_
  refine KIstore (lv' := [(4, .int (iI (x % 100))), (3, .int (iI ((x / 100) - (y / 100)))), (0, .ref (q 80)), (1, .int (iI x)), (2, .int (iI y))]) C dX6_way_14 (by decide) rfl ?_
  refine KIload_n C dX6_way_16 rfl 4 rfl ?_
  refine KBipush C dX6_way_17 (by decide) ?_
  refine KIrem (z := y % 100) C dX6_way_19 ⟨by omega, by omega⟩ ⟨by omega, by omega⟩ (by omega) (tmod_pos (by omega)) ?_
  refine KIstore (lv' := [(5, .int (iI (y % 100))), (4, .int (iI (x % 100))), (3, .int (iI ((x / 100) - (y / 100)))), (0, .ref (q 80)), (1, .int (iI x)), (2, .int (iI y))]) C dX6_way_20 (by decide) rfl ?_
  refine KIload_n C dX6_way_22 rfl 2 rfl ?_
  refine KIf_ne (tgt := 47) C dX6_way_23 (by decide) ⟨by omega, by omega⟩ (fun c23 => ?_) (fun c23 => ?_)
  · refine KIload C dX6_way_47 1 rfl ?_
    refine KIload C dX6_way_49 0 rfl ?_
    refine KIadd C dX6_way_51 ?_
    refine KIstore (lv' := [(6, .int (iI ((x % 100) + (y % 100)))), (5, .int (iI (y % 100))), (4, .int (iI (x % 100))), (3, .int (iI ((x / 100) - (y / 100)))), (0, .ref (q 80)), (1, .int (iI x)), (2, .int (iI y))]) C dX6_way_52 (by decide) rfl ?_
    refine KIconst C dX6_way_54 ?_
    refine KAload_n C dX6_way_55 rfl 4 rfl ?_
    refine KGetI C ul_X6 rfl (by decide) 2 2 rfl (by decide) rfl u_fl_RX6_53 (hT.at0 80 7) (v := sI S (q 80) 2) rfl dX6_way_56 (fun _ h => h) ?_
    have rb1 := hR.b (q 80) 2 (v := sI S (q 80) 2) rfl
    refine KIconst C dX6_way_59 ?_
    refine KIadd C dX6_way_60 ?_
    refine KImul C dX6_way_61 ?_
    refine KIload C dX6_way_62 0 rfl ?_
    refine KIsub C dX6_way_64 ?_
    refine KIstore (lv' := [(7, .int (iI ((2 * ((sI S (q 80) 2) + 1)) - ((x % 100) + (y % 100))))), (6, .int (iI ((x % 100) + (y % 100)))), (5, .int (iI (y % 100))), (4, .int (iI (x % 100))), (3, .int (iI ((x / 100) - (y / 100)))), (0, .ref (q 80)), (1, .int (iI x)), (2, .int (iI y))]) C dX6_way_65 (by decide) rfl ?_
    refine KIload_n C dX6_way_67 rfl 4 rfl ?_
    refine KIf_ge (tgt := 76) C dX6_way_68 (by decide) ⟨by omega, by omega⟩ (fun c68 => ?_) (fun c68 => ?_)
    · refine KIload_n C dX6_way_76 rfl 4 rfl ?_
      refine KAload_n C dX6_way_77 rfl 5 rfl ?_
      refine KGetI C ul_X6 rfl (by decide) 3 3 rfl (by decide) rfl u_fl_RX6_56 (hT.at0 80 7) (v := sI S (q 80) 3) rfl dX6_way_78 (fun _ h => h) ?_
      have rb2 := hR.b (q 80) 3 (v := sI S (q 80) 3) rfl
      refine KImul C dX6_way_81 ?_
      refine KIload C dX6_way_82 1 rfl ?_
      refine KIload C dX6_way_84 0 rfl ?_
      refine KIcmp_ge (tgt := 94) C dX6_way_86 (by decide) ⟨by omega, by omega⟩ ⟨by omega, by omega⟩ (fun c86 => ?_) (fun c86 => ?_)
      · refine KIload C dX6_way_94 0 rfl ?_
        refine KIadd C dX6_way_96 ?_
        refine KIret C rfl rfl (by
          exact ⟨congrArg (fun z => some (Value.int (iI z))) (dst_1 c23 (by unfold absI; split <;> omega) (by unfold minI; split <;> omega)).symm, rfl⟩) (by decide) (by decide) dX6_way_97
      · refine KIload C dX6_way_89 1 rfl ?_
        refine KGoto (tgt := 96) C dX6_way_91 (by decide) ?_
        refine KIadd C dX6_way_96 ?_
        refine KIret C rfl rfl (by
          exact ⟨congrArg (fun z => some (Value.int (iI z))) (dst_1 c23 (by unfold absI; split <;> omega) (by unfold minI; split <;> omega)).symm, rfl⟩) (by decide) (by decide) dX6_way_97
    · refine KIload_n C dX6_way_71 rfl 4 rfl ?_
      refine KIneg C dX6_way_72 ?_
      refine KGoto (tgt := 77) C dX6_way_73 (by decide) ?_
      refine KAload_n C dX6_way_77 rfl 5 rfl ?_
      refine KGetI C ul_X6 rfl (by decide) 3 3 rfl (by decide) rfl u_fl_RX6_56 (hT.at0 80 7) (v := sI S (q 80) 3) rfl dX6_way_78 (fun _ h => h) ?_
      have rb3 := hR.b (q 80) 3 (v := sI S (q 80) 3) rfl
      refine KImul C dX6_way_81 ?_
      refine KIload C dX6_way_82 1 rfl ?_
      refine KIload C dX6_way_84 0 rfl ?_
      refine KIcmp_ge (tgt := 94) C dX6_way_86 (by decide) ⟨by omega, by omega⟩ ⟨by omega, by omega⟩ (fun c86 => ?_) (fun c86 => ?_)
      · refine KIload C dX6_way_94 0 rfl ?_
        refine KIadd C dX6_way_96 ?_
        refine KIret C rfl rfl (by
          exact ⟨congrArg (fun z => some (Value.int (iI z))) (dst_1 c23 (by unfold absI; split <;> omega) (by unfold minI; split <;> omega)).symm, rfl⟩) (by decide) (by decide) dX6_way_97
      · refine KIload C dX6_way_89 1 rfl ?_
        refine KGoto (tgt := 96) C dX6_way_91 (by decide) ?_
        refine KIadd C dX6_way_96 ?_
        refine KIret C rfl rfl (by
          exact ⟨congrArg (fun z => some (Value.int (iI z))) (dst_1 c23 (by unfold absI; split <;> omega) (by unfold minI; split <;> omega)).symm, rfl⟩) (by decide) (by decide) dX6_way_97
  · refine KIload C dX6_way_26 1 rfl ?_
    refine KIload C dX6_way_28 0 rfl ?_
    refine KIcmp_ge (tgt := 41) C dX6_way_30 (by decide) ⟨by omega, by omega⟩ ⟨by omega, by omega⟩ (fun c30 => ?_) (fun c30 => ?_)
    · refine KIload C dX6_way_41 1 rfl ?_
      refine KIload C dX6_way_43 0 rfl ?_
      refine KIsub C dX6_way_45 ?_
      refine KIret C rfl rfl (by
        exact ⟨congrArg (fun z => some (Value.int (iI z))) (dst_0 c23 (by unfold absI; split <;> omega)).symm, rfl⟩) (by decide) (by decide) dX6_way_46
    · refine KIload C dX6_way_33 0 rfl ?_
      refine KIload C dX6_way_35 1 rfl ?_
      refine KIsub C dX6_way_37 ?_
      refine KGoto (tgt := 46) C dX6_way_38 (by decide) ?_
      refine KIret C rfl rfl (by
        exact ⟨congrArg (fun z => some (Value.int (iI z))) (dst_0 c23 (by unfold absI; split <;> omega)).symm, rfl⟩) (by decide) (by decide) dX6_way_46
def P_X6_step (S : Sto) (q : Nat → Nat) (m : Nat) (i : Nat) (j : Nat) : Option Value → Sto → Prop := fun v u => v = some (.int (iI (dmM S q m i j))) ∧ S = u
set_option maxRecDepth 100000 in
set_option maxHeartbeats 4000000 in
theorem ct_X6_step (l : Launch) (g : GG) (S : Sto) (q : Nat → Nat) (m : Nat) (i : Nat) (j : Nat) (hT : Top S q) (hCm : CfM S q) (hmm : okM (sI S (q 80) 2) (sI S (q 81)) m) (hL : Lm S q m) (hi : i < (slm S q m).length ∨ i = 9) (hj : j < (slm S q m).length ∨ j = 9) : MetS l g yX6_step cX6_step 3 (some FieldType.int) 2 0 0 [.ref (q 80), .int (iI (i : Int)), .int (iI (j : Int))] S (P_X6_step S q m i j) := by
  refine MetS.of (own := RX6) (lv := [(0, .ref (q 80)), (1, .int (iI (i : Int))), (2, .int (iI (j : Int)))]) (by decide) rfl (Nat.le_of_ble_eq_true rfl) rfl ?_
  intro pX eX sX mX argsX belowX methX cX C hin
  refine KRg (fun hR => ?_)
  obtain ⟨hA1, hA2, hN1, hN2, hG1, hG2⟩ := id hCm
  obtain ⟨hm1, hm2, hm3⟩ := id hmm
  have hlen : (slm S q m).length ≤ 9 := by rw [sl_len]; exact hm2
  have hdo := okM_okDm hCm hmm
  refine KAload_n C dX6_step_0 rfl 0 rfl ?_
  refine KIload_n C dX6_step_1 rfl 1 rfl ?_
  refine KBipush C dX6_step_2 (by decide) ?_
  refine KIcmp_ne (tgt := 11) C dX6_step_4 (by decide) ⟨by omega, by omega⟩ ⟨by omega, by omega⟩ (fun c4 => ?_) (fun c4 => ?_)
  · have ei : pt (sI S (q 81)) (slm S q m) i = sI S (q 81) (((slm S q m).getD i 0 : Nat) : Int) := pt_n (by omega)
    have hmi : (slm S q m).getD i 0 < 20 := (sl_mem (sI S (q 81)) m 20 i (show i < (slm S q m).length by omega)).1
    obtain ⟨⟨hpi1, hpi2, hpi3⟩, hpi4, hpi5⟩ := okM_pt ⟨hN1, hN2⟩ hmm (j := i) (Or.inl (show i < (slm S q m).length by omega))
    rw [ei] at hpi1 hpi2 hpi3 hpi4 hpi5
    refine KAload_n C dX6_step_11 rfl 0 rfl ?_
    refine KGetR C ul_X6 rfl (by decide) 5 5 rfl (by decide) rfl u_fl_RX6_13 (hT.at0 80 7) (b := q 81) (hT.ptr 80 5 81) dX6_step_12 (fun _ h => h) ?_
    refine KAload_n C dX6_step_15 rfl 0 rfl ?_
    refine KGetR C ul_X6 rfl (by decide) 17 17 rfl (by decide) rfl u_fl_RX6_35 (hT.at0 80 7) (b := q 88) (hT.ptr 80 17 88) dX6_step_16 (fun _ h => h) ?_
    refine KIload_n C dX6_step_19 rfl 1 rfl ?_
    refine KIald  (v := (((slm S q m).getD i 0 : Nat) : Int)) C 9 (hT.at0 88 20) (hT.ln0 88 9) ⟨by omega, by omega⟩ (by omega) (hL.2 i (by omega)) dX6_step_20 ?_
    have rb1 := hR.b (q 88) (i : Int) (v := (((slm S q m).getD i 0 : Nat) : Int)) (hL.2 i (by omega))
    refine KIald  (v := sI S (q 81) (((slm S q m).getD i 0 : Nat) : Int)) C 20 (hT.at0 81 20) (hT.ln0 81 20) ⟨by omega, by omega⟩ (by omega) rfl dX6_step_21 ?_
    have rb2 := hR.b (q 81) (((slm S q m).getD i 0 : Nat) : Int) (v := sI S (q 81) (((slm S q m).getD i 0 : Nat) : Int)) rfl
    refine KIload_n C dX6_step_22 rfl 2 rfl ?_
    refine KBipush C dX6_step_23 (by decide) ?_
    refine KIcmp_ne (tgt := 32) C dX6_step_25 (by decide) ⟨by omega, by omega⟩ ⟨by omega, by omega⟩ (fun c25 => ?_) (fun c25 => ?_)
    · have ej : pt (sI S (q 81)) (slm S q m) j = sI S (q 81) (((slm S q m).getD j 0 : Nat) : Int) := pt_n (by omega)
      have hmj : (slm S q m).getD j 0 < 20 := (sl_mem (sI S (q 81)) m 20 j (show j < (slm S q m).length by omega)).1
      obtain ⟨⟨hpj1, hpj2, hpj3⟩, hpj4, hpj5⟩ := okM_pt ⟨hN1, hN2⟩ hmm (j := j) (Or.inl (show j < (slm S q m).length by omega))
      rw [ej] at hpj1 hpj2 hpj3 hpj4 hpj5
      refine KAload_n C dX6_step_32 rfl 0 rfl ?_
      refine KGetR C ul_X6 rfl (by decide) 5 5 rfl (by decide) rfl u_fl_RX6_13 (hT.at0 80 7) (b := q 81) (hT.ptr 80 5 81) dX6_step_33 (fun _ h => h) ?_
      refine KAload_n C dX6_step_36 rfl 0 rfl ?_
      refine KGetR C ul_X6 rfl (by decide) 17 17 rfl (by decide) rfl u_fl_RX6_35 (hT.at0 80 7) (b := q 88) (hT.ptr 80 17 88) dX6_step_37 (fun _ h => h) ?_
      refine KIload_n C dX6_step_40 rfl 2 rfl ?_
      refine KIald  (v := (((slm S q m).getD j 0 : Nat) : Int)) C 9 (hT.at0 88 20) (hT.ln0 88 9) ⟨by omega, by omega⟩ (by omega) (hL.2 j (by omega)) dX6_step_41 ?_
      have rb3 := hR.b (q 88) (j : Int) (v := (((slm S q m).getD j 0 : Nat) : Int)) (hL.2 j (by omega))
      refine KIald  (v := sI S (q 81) (((slm S q m).getD j 0 : Nat) : Int)) C 20 (hT.at0 81 20) (hT.ln0 81 20) ⟨by omega, by omega⟩ (by omega) rfl dX6_step_42 ?_
      have rb4 := hR.b (q 81) (((slm S q m).getD j 0 : Nat) : Int) (v := sI S (q 81) (((slm S q m).getD j 0 : Nat) : Int)) rfl
      refine KCallV (As := [.int (iI (sI S (q 81) (((slm S q m).getD i 0 : Nat) : Int))), .int (iI (sI S (q 81) (((slm S q m).getD j 0 : Nat) : Int)))]) (b := q 80) (st := []) C (ct_X6_way l g S q (sI S (q 81) (((slm S q m).getD i 0 : Nat) : Int)) (sI S (q 81) (((slm S q m).getD j 0 : Nat) : Int)) hT hCm (by omega) (by omega)) u_ml_RX6_72 u_im_yX6_way u_se_yX6_way u_in_RX6 u_co_yX6_way hd_yX6_way (hT.at0 80 7) (by decide) rfl rfl ⟨Nat.le_of_ble_eq_true rfl, Nat.le_of_ble_eq_true rfl⟩ ⟨Nat.le_of_ble_eq_true rfl, Nat.le_of_ble_eq_true rfl⟩ (Nat.le_of_ble_eq_true rfl) dX6_step_43 rfl (fun v43 u43 hp43 => ?_)
      obtain ⟨rfl, rfl⟩ := hp43
      refine KSt (st2 := [.int (iI (dst (sI S (q 80) 2) (sI S (q 80) 3) (sI S (q 81) (((slm S q m).getD i 0 : Nat) : Int)) (sI S (q 81) (((slm S q m).getD j 0 : Nat) : Int))))]) rfl ?_
      refine KIret C rfl rfl (by
        refine ⟨?_, rfl⟩
        show _ = some (Value.int (iI (dst _ _ (pt (sI S (q 81)) (slm S q m) i) (pt (sI S (q 81)) (slm S q m) j))))
        rw [ei, ej]) (by decide) (by decide) dX6_step_46
    · have ej : pt (sI S (q 81)) (slm S q m) j = 0 := if_pos (by omega)
      refine KIconst C dX6_step_28 ?_
      refine KGoto (tgt := 43) C dX6_step_29 (by decide) ?_
      refine KCallV (As := [.int (iI (sI S (q 81) (((slm S q m).getD i 0 : Nat) : Int))), .int (iI 0)]) (b := q 80) (st := []) C (ct_X6_way l g S q (sI S (q 81) (((slm S q m).getD i 0 : Nat) : Int)) 0 hT hCm (by omega) (by omega)) u_ml_RX6_72 u_im_yX6_way u_se_yX6_way u_in_RX6 u_co_yX6_way hd_yX6_way (hT.at0 80 7) (by decide) rfl rfl ⟨Nat.le_of_ble_eq_true rfl, Nat.le_of_ble_eq_true rfl⟩ ⟨Nat.le_of_ble_eq_true rfl, Nat.le_of_ble_eq_true rfl⟩ (Nat.le_of_ble_eq_true rfl) dX6_step_43 rfl (fun v43 u43 hp43 => ?_)
      obtain ⟨rfl, rfl⟩ := hp43
      refine KSt (st2 := [.int (iI (dst (sI S (q 80) 2) (sI S (q 80) 3) (sI S (q 81) (((slm S q m).getD i 0 : Nat) : Int)) 0))]) rfl ?_
      refine KIret C rfl rfl (by
        refine ⟨?_, rfl⟩
        show _ = some (Value.int (iI (dst _ _ (pt (sI S (q 81)) (slm S q m) i) (pt (sI S (q 81)) (slm S q m) j))))
        rw [ei, ej]) (by decide) (by decide) dX6_step_46
  · have ei : pt (sI S (q 81)) (slm S q m) i = 0 := if_pos (by omega)
    refine KIconst C dX6_step_7 ?_
    refine KGoto (tgt := 22) C dX6_step_8 (by decide) ?_
    refine KIload_n C dX6_step_22 rfl 2 rfl ?_
    refine KBipush C dX6_step_23 (by decide) ?_
    refine KIcmp_ne (tgt := 32) C dX6_step_25 (by decide) ⟨by omega, by omega⟩ ⟨by omega, by omega⟩ (fun c25 => ?_) (fun c25 => ?_)
    · have ej : pt (sI S (q 81)) (slm S q m) j = sI S (q 81) (((slm S q m).getD j 0 : Nat) : Int) := pt_n (by omega)
      have hmj : (slm S q m).getD j 0 < 20 := (sl_mem (sI S (q 81)) m 20 j (show j < (slm S q m).length by omega)).1
      obtain ⟨⟨hpj1, hpj2, hpj3⟩, hpj4, hpj5⟩ := okM_pt ⟨hN1, hN2⟩ hmm (j := j) (Or.inl (show j < (slm S q m).length by omega))
      rw [ej] at hpj1 hpj2 hpj3 hpj4 hpj5
      refine KAload_n C dX6_step_32 rfl 0 rfl ?_
      refine KGetR C ul_X6 rfl (by decide) 5 5 rfl (by decide) rfl u_fl_RX6_13 (hT.at0 80 7) (b := q 81) (hT.ptr 80 5 81) dX6_step_33 (fun _ h => h) ?_
      refine KAload_n C dX6_step_36 rfl 0 rfl ?_
      refine KGetR C ul_X6 rfl (by decide) 17 17 rfl (by decide) rfl u_fl_RX6_35 (hT.at0 80 7) (b := q 88) (hT.ptr 80 17 88) dX6_step_37 (fun _ h => h) ?_
      refine KIload_n C dX6_step_40 rfl 2 rfl ?_
      refine KIald  (v := (((slm S q m).getD j 0 : Nat) : Int)) C 9 (hT.at0 88 20) (hT.ln0 88 9) ⟨by omega, by omega⟩ (by omega) (hL.2 j (by omega)) dX6_step_41 ?_
      have rb5 := hR.b (q 88) (j : Int) (v := (((slm S q m).getD j 0 : Nat) : Int)) (hL.2 j (by omega))
      refine KIald  (v := sI S (q 81) (((slm S q m).getD j 0 : Nat) : Int)) C 20 (hT.at0 81 20) (hT.ln0 81 20) ⟨by omega, by omega⟩ (by omega) rfl dX6_step_42 ?_
      have rb6 := hR.b (q 81) (((slm S q m).getD j 0 : Nat) : Int) (v := sI S (q 81) (((slm S q m).getD j 0 : Nat) : Int)) rfl
      refine KCallV (As := [.int (iI 0), .int (iI (sI S (q 81) (((slm S q m).getD j 0 : Nat) : Int)))]) (b := q 80) (st := []) C (ct_X6_way l g S q 0 (sI S (q 81) (((slm S q m).getD j 0 : Nat) : Int)) hT hCm (by omega) (by omega)) u_ml_RX6_72 u_im_yX6_way u_se_yX6_way u_in_RX6 u_co_yX6_way hd_yX6_way (hT.at0 80 7) (by decide) rfl rfl ⟨Nat.le_of_ble_eq_true rfl, Nat.le_of_ble_eq_true rfl⟩ ⟨Nat.le_of_ble_eq_true rfl, Nat.le_of_ble_eq_true rfl⟩ (Nat.le_of_ble_eq_true rfl) dX6_step_43 rfl (fun v43 u43 hp43 => ?_)
      obtain ⟨rfl, rfl⟩ := hp43
      refine KSt (st2 := [.int (iI (dst (sI S (q 80) 2) (sI S (q 80) 3) 0 (sI S (q 81) (((slm S q m).getD j 0 : Nat) : Int))))]) rfl ?_
      refine KIret C rfl rfl (by
        refine ⟨?_, rfl⟩
        show _ = some (Value.int (iI (dst _ _ (pt (sI S (q 81)) (slm S q m) i) (pt (sI S (q 81)) (slm S q m) j))))
        rw [ei, ej]) (by decide) (by decide) dX6_step_46
    · have ej : pt (sI S (q 81)) (slm S q m) j = 0 := if_pos (by omega)
      refine KIconst C dX6_step_28 ?_
      refine KGoto (tgt := 43) C dX6_step_29 (by decide) ?_
      refine KCallV (As := [.int (iI 0), .int (iI 0)]) (b := q 80) (st := []) C (ct_X6_way l g S q 0 0 hT hCm (by omega) (by omega)) u_ml_RX6_72 u_im_yX6_way u_se_yX6_way u_in_RX6 u_co_yX6_way hd_yX6_way (hT.at0 80 7) (by decide) rfl rfl ⟨Nat.le_of_ble_eq_true rfl, Nat.le_of_ble_eq_true rfl⟩ ⟨Nat.le_of_ble_eq_true rfl, Nat.le_of_ble_eq_true rfl⟩ (Nat.le_of_ble_eq_true rfl) dX6_step_43 rfl (fun v43 u43 hp43 => ?_)
      obtain ⟨rfl, rfl⟩ := hp43
      refine KSt (st2 := [.int (iI (dst (sI S (q 80) 2) (sI S (q 80) 3) 0 0))]) rfl ?_
      refine KIret C rfl rfl (by
        refine ⟨?_, rfl⟩
        show _ = some (Value.int (iI (dst _ _ (pt (sI S (q 81)) (slm S q m) i) (pt (sI S (q 81)) (slm S q m) j))))
        rw [ei, ej]) (by decide) (by decide) dX6_step_46
def P_X6_wayOn (S : Sto) (q : Nat → Nat) (m : Nat) (left : Nat) (src : Nat) : Option Value → Sto → Prop := fun v u => v = some (.int (iI (tr (dmM S q m) (slm S q m).length left src))) ∧ S = u
set_option maxRecDepth 100000 in
set_option maxHeartbeats 4000000 in
theorem ct_X6_wayOn (l : Launch) (g : GG) (S : Sto) (q : Nat → Nat) (m : Nat) (left : Nat) (src : Nat) (hT : Top S q) (hCm : CfM S q) (hmm : okM (sI S (q 80) 2) (sI S (q 81)) m) (hL : Lm S q m) (hsrc : src < (slm S q m).length ∨ src = 9) (hl : left < 2 ^ (slm S q m).length) (hon : OnM (slm S q m).length (dmM S q m) (sI S (q 89)) left) : MetS l g yX6_wayOn cX6_wayOn 6 (some FieldType.int) 3 0 0 [.ref (q 80), .int (iI (left : Int)), .int (iI (src : Int))] S (P_X6_wayOn S q m left src) := by
  refine MetS.of (own := RX6) (lv := [(0, .ref (q 80)), (1, .int (iI (left : Int))), (2, .int (iI (src : Int)))]) (by decide) rfl (Nat.le_of_ble_eq_true rfl) rfl ?_
  intro pX eX sX mX argsX belowX methX cX C hin
  refine KRg (fun hR => ?_)
  obtain ⟨hA1, hA2, hN1, hN2, hG1, hG2⟩ := id hCm
  obtain ⟨hm1, hm2, hm3⟩ := id hmm
  have hlen : (slm S q m).length ≤ 9 := by rw [sl_len]; exact hm2
  have hdo := okM_okDm hCm hmm
  have h512 : 2 ^ (slm S q m).length ≤ 2 ^ 9 := Nat.pow_le_pow_right (by omega) hlen
  have hl5 : left < 512 := Nat.lt_of_lt_of_le hl h512
  refine KIload_n C dX6_wayOn_0 rfl 1 rfl ?_
  refine KIf_ne (tgt := 14) C dX6_wayOn_1 (by decide) ⟨by omega, by omega⟩ (fun c1 => ?_) (fun c1 => ?_)
  · refine KLdc (n := 1000000000) C u_ct_RX6_82 (by decide) dX6_wayOn_14 ?_
    refine KTop (congrArg iI (show 1000000000 = wB (dmM S q m) (slm S q m).length left src 0 from (by unfold wB; first | rw [if_pos (by omega)] | rw [if_neg (by omega)]; first | done | rfl))) ?_
    refine KIstore_n (lv' := [(3, .int (iI (wB (dmM S q m) (slm S q m).length left src 0))), (0, .ref (q 80)), (1, .int (iI (left : Int))), (2, .int (iI (src : Int)))]) C dX6_wayOn_16 rfl (by decide) rfl ?_
    refine KIconst C dX6_wayOn_17 ?_
    refine KIstore (lv' := [(4, .int (iI 0)), (3, .int (iI (wB (dmM S q m) (slm S q m).length left src 0))), (0, .ref (q 80)), (1, .int (iI (left : Int))), (2, .int (iI (src : Int)))]) C dX6_wayOn_18 (by decide) rfl ?_
    refine KLv (lv' := [(0, .ref (q 80)), (1, .int (iI (left : Int))), (2, .int (iI (src : Int))), (3, .int (iI (wB (dmM S q m) (slm S q m).length left src 0))), (4, .int (iI 0))]) [2, 3, 4, 1, 0] rfl ?_
    have loop20 : ∀ (nX : Nat) (k : Nat), (slm S q m).length - k < nX → (k ≤ (slm S q m).length) → Wk pX l eX (rmK 3 0 0) sX mX argsX belowX methX cX (MQ belowX (QcG g (P_X6_wayOn S q m left src)) argsX sX 0 0 (ge (gB g))) g 6 0 0 20 [(0, .ref (q 80)), (1, .int (iI (left : Int))), (2, .int (iI (src : Int))), (3, .int (iI (wB (dmM S q m) (slm S q m).length left src k))), (4, .int (iI (k : Int)))] [] S := by
      intro nX
      induction nX with
      | zero => intro k hm; exact absurd hm (Nat.not_lt_zero _)
      | succ nX ih20 =>
        intro k hm20 hk
        refine KRg (fun hR => ?_)
        have hwb := wB_b (left := left) hdo hsrc hk
        refine KIload C dX6_wayOn_20 4 rfl ?_
        refine KAload_n C dX6_wayOn_22 rfl 0 rfl ?_
        refine KGetI C ul_X6 rfl (by decide) 16 16 rfl (by decide) rfl u_fl_RX6_76 (hT.at0 80 7) (v := ((slm S q m).length : Int)) hL.1 dX6_wayOn_23 (fun _ h => h) ?_
        have rb1 := hR.b (q 80) 16 (v := ((slm S q m).length : Int)) hL.1
        refine KIcmp_ge (tgt := 85) C dX6_wayOn_26 (by decide) ⟨by omega, by omega⟩ ⟨by omega, by omega⟩ (fun c26 => ?_) (fun c26 => ?_)
        · refine KIload_n C dX6_wayOn_85 rfl 3 rfl ?_
          refine KIret C rfl rfl (by
            refine ⟨?_, rfl⟩
            rw [← wB_end hdo hsrc hl, show (slm S q m).length = k by omega]) (by decide) (by decide) dX6_wayOn_86
        · refine KIload_n C dX6_wayOn_29 rfl 1 rfl ?_
          refine KIload C dX6_wayOn_30 4 rfl ?_
          refine KIshr (v := iI ((left / 2 ^ k : Nat) : Int)) C dX6_wayOn_32 (ib_shr (by omega) (by omega)) ?_
          refine KIconst C dX6_wayOn_33 ?_
          refine KIand (v := iI ((left / 2 ^ k % 2 : Nat) : Int)) C dX6_wayOn_34 (ib_bit (by omega) (by omega)) ?_
          refine KIconst C dX6_wayOn_35 ?_
          refine KIcmp_ne (tgt := 79) C dX6_wayOn_36 (by decide) ⟨by omega, by omega⟩ ⟨by omega, by omega⟩ (fun c36 => ?_) (fun c36 => ?_)
          · have hb36 : ¬ left.testBit k = true := by rw [tb_0 (by omega)]; exact Bool.false_ne_true
            refine KLvE (lv2 := [(0, .ref (q 80)), (1, .int (iI (left : Int))), (2, .int (iI (src : Int))), (3, .int (iI (wB (dmM S q m) (slm S q m).length left src (k + 1)))), (4, .int (iI (k : Int)))]) (congrArg (fun zz : Int => ([(0, .ref (q 80)), (1, .int (iI (left : Int))), (2, .int (iI (src : Int))), (3, .int (iI zz)), (4, .int (iI (k : Int)))] : List (Nat × Value))) (show (wB (dmM S q m) (slm S q m).length left src k : Int) = wB (dmM S q m) (slm S q m).length left src (k + 1) from (wB_f hb36))) ?_
            refine KIinc (v := ((k + 1 : Nat) : Int)) (lv' := [(4, .int (iI ((k + 1 : Nat) : Int))), (0, .ref (q 80)), (1, .int (iI (left : Int))), (2, .int (iI (src : Int))), (3, .int (iI (wB (dmM S q m) (slm S q m).length left src (k + 1))))]) C dX6_wayOn_79 4 rfl (by omega) (by decide) rfl ?_
            refine KGoto (tgt := 20) C dX6_wayOn_82 (by decide) ?_
            refine KLv (lv' := [(0, .ref (q 80)), (1, .int (iI (left : Int))), (2, .int (iI (src : Int))), (3, .int (iI (wB (dmM S q m) (slm S q m).length left src (k + 1)))), (4, .int (iI ((k + 1 : Nat) : Int)))]) [1, 2, 3, 4, 0] rfl ?_
            exact ih20 (k + 1) (by omega) (by omega)
          · have hb36 : left.testBit k = true := tb_1 (by omega)
            have hge := tb_ge hb36
            have hx5 : left - 2 ^ k < 512 := Nat.lt_of_le_of_lt (Nat.sub_le _ _) hl5
            refine KAload_n C dX6_wayOn_39 rfl 0 rfl ?_
            refine KIload_n C dX6_wayOn_40 rfl 2 rfl ?_
            refine KIload C dX6_wayOn_41 4 rfl ?_
            refine KCallV (As := [.int (iI (src : Int)), .int (iI (k : Int))]) (b := q 80) (st := []) C (ct_X6_step l g S q m src k hT hCm hmm hL (by omega) (by omega)) u_ml_RX6_83 u_im_yX6_step u_se_yX6_step u_in_RX6 u_co_yX6_step hd_yX6_step (hT.at0 80 7) (by decide) rfl rfl ⟨Nat.le_of_ble_eq_true rfl, Nat.le_of_ble_eq_true rfl⟩ ⟨Nat.le_of_ble_eq_true rfl, Nat.le_of_ble_eq_true rfl⟩ (Nat.le_of_ble_eq_true rfl) dX6_wayOn_43 rfl (fun v43 u43 hp43 => ?_)
            obtain ⟨rfl, rfl⟩ := hp43
            refine KSt (st2 := [.int (iI (dmM S q m src k))]) rfl ?_
            refine KAload_n C dX6_wayOn_46 rfl 0 rfl ?_
            refine KGetR C ul_X6 rfl (by decide) 18 18 rfl (by decide) rfl u_fl_RX6_38 (hT.at0 80 7) (b := q 89) (hT.ptr 80 18 89) dX6_wayOn_47 (fun _ h => h) ?_
            refine KBipush C dX6_wayOn_50 (by decide) ?_
            refine KIload_n C dX6_wayOn_52 rfl 1 rfl ?_
            refine KIconst C dX6_wayOn_53 ?_
            refine KIload C dX6_wayOn_54 4 rfl ?_
            refine KIshl (v := iI ((2 ^ k : Nat) : Int)) C dX6_wayOn_56 (ib_shl (by omega)) ?_
            refine KIsub C dX6_wayOn_57 ?_
            refine KTop (congrArg iI (show (left : Int) - ((2 ^ k : Nat) : Int) = ((left - 2 ^ k : Nat) : Int) from (by omega))) ?_
            refine KImul C dX6_wayOn_58 ?_
            refine KIload C dX6_wayOn_59 4 rfl ?_
            refine KIadd C dX6_wayOn_61 ?_
            refine KTop (congrArg iI (show (10 * ((left - 2 ^ k : Nat) : Int)) + (k : Int) = ((10 * (left - 2 ^ k) + k : Nat) : Int) from (by omega))) ?_
            refine KIald  (v := tr (dmM S q m) (slm S q m).length (left - 2 ^ k) k) C 5120 (hT.at0 89 20) (hT.ln0 89 5120) ⟨by omega, by omega⟩ (by omega) (hon.get (by omega) hb36) dX6_wayOn_62 ?_
            have htc := tr_b hdo (slm S q m).length (left - 2 ^ k) k (Nat.le_refl _) (Nat.lt_of_le_of_lt (Nat.sub_le _ _) hl) (Or.inl (by omega))
            have hdk := hdo.2 src k hsrc (Or.inl (by omega))
            refine KIadd C dX6_wayOn_63 ?_
            refine KIstore (lv' := [(5, .int (iI ((dmM S q m src k) + (tr (dmM S q m) (slm S q m).length (left - 2 ^ k) k)))), (0, .ref (q 80)), (1, .int (iI (left : Int))), (2, .int (iI (src : Int))), (3, .int (iI (wB (dmM S q m) (slm S q m).length left src k))), (4, .int (iI (k : Int)))]) C dX6_wayOn_64 (by decide) rfl ?_
            refine KIload C dX6_wayOn_66 0 rfl ?_
            refine KIload_n C dX6_wayOn_68 rfl 4 rfl ?_
            refine KIcmp_ge (tgt := 77) C dX6_wayOn_69 (by decide) ⟨by omega, by omega⟩ ⟨by omega, by omega⟩ (fun c69 => ?_) (fun c69 => ?_)
            · refine KIload_n C dX6_wayOn_77 rfl 4 rfl ?_
              refine KTop (congrArg iI (show wB (dmM S q m) (slm S q m).length left src k = wB (dmM S q m) (slm S q m).length left src (k + 1) from (by rw [wB_t hb36]; unfold minI; split <;> omega))) ?_
              refine KIstore_n (lv' := [(3, .int (iI (wB (dmM S q m) (slm S q m).length left src (k + 1)))), (5, .int (iI ((dmM S q m src k) + (tr (dmM S q m) (slm S q m).length (left - 2 ^ k) k)))), (0, .ref (q 80)), (1, .int (iI (left : Int))), (2, .int (iI (src : Int))), (4, .int (iI (k : Int)))]) C dX6_wayOn_78 rfl (by decide) rfl ?_
              refine KIinc (v := ((k + 1 : Nat) : Int)) (lv' := [(4, .int (iI ((k + 1 : Nat) : Int))), (3, .int (iI (wB (dmM S q m) (slm S q m).length left src (k + 1)))), (5, .int (iI ((dmM S q m src k) + (tr (dmM S q m) (slm S q m).length (left - 2 ^ k) k)))), (0, .ref (q 80)), (1, .int (iI (left : Int))), (2, .int (iI (src : Int)))]) C dX6_wayOn_79 5 rfl (by omega) (by decide) rfl ?_
              refine KGoto (tgt := 20) C dX6_wayOn_82 (by decide) ?_
              refine KLv (lv' := [(0, .ref (q 80)), (1, .int (iI (left : Int))), (2, .int (iI (src : Int))), (3, .int (iI (wB (dmM S q m) (slm S q m).length left src (k + 1)))), (4, .int (iI ((k + 1 : Nat) : Int)))]) [3, 4, 5, 1, 0] rfl ?_
              exact ih20 (k + 1) (by omega) (by omega)
            · refine KIload C dX6_wayOn_72 0 rfl ?_
              refine KGoto (tgt := 78) C dX6_wayOn_74 (by decide) ?_
              refine KTop (congrArg iI (show (dmM S q m src k) + (tr (dmM S q m) (slm S q m).length (left - 2 ^ k) k) = wB (dmM S q m) (slm S q m).length left src (k + 1) from (by rw [wB_t hb36]; unfold minI; split <;> omega))) ?_
              refine KIstore_n (lv' := [(3, .int (iI (wB (dmM S q m) (slm S q m).length left src (k + 1)))), (5, .int (iI ((dmM S q m src k) + (tr (dmM S q m) (slm S q m).length (left - 2 ^ k) k)))), (0, .ref (q 80)), (1, .int (iI (left : Int))), (2, .int (iI (src : Int))), (4, .int (iI (k : Int)))]) C dX6_wayOn_78 rfl (by decide) rfl ?_
              refine KIinc (v := ((k + 1 : Nat) : Int)) (lv' := [(4, .int (iI ((k + 1 : Nat) : Int))), (3, .int (iI (wB (dmM S q m) (slm S q m).length left src (k + 1)))), (5, .int (iI ((dmM S q m src k) + (tr (dmM S q m) (slm S q m).length (left - 2 ^ k) k)))), (0, .ref (q 80)), (1, .int (iI (left : Int))), (2, .int (iI (src : Int)))]) C dX6_wayOn_79 5 rfl (by omega) (by decide) rfl ?_
              refine KGoto (tgt := 20) C dX6_wayOn_82 (by decide) ?_
              refine KLv (lv' := [(0, .ref (q 80)), (1, .int (iI (left : Int))), (2, .int (iI (src : Int))), (3, .int (iI (wB (dmM S q m) (slm S q m).length left src (k + 1)))), (4, .int (iI ((k + 1 : Nat) : Int)))]) [3, 4, 5, 1, 0] rfl ?_
              exact ih20 (k + 1) (by omega) (by omega)
    exact loop20 _ 0 (Nat.lt_succ_self _) (by omega)
  · refine KAload_n C dX6_wayOn_4 rfl 0 rfl ?_
    refine KIload_n C dX6_wayOn_5 rfl 2 rfl ?_
    refine KBipush C dX6_wayOn_6 (by decide) ?_
    refine KCallV (As := [.int (iI (src : Int)), .int (iI 9)]) (b := q 80) (st := []) C (ct_X6_step l g S q m src 9 hT hCm hmm hL (by omega) (by omega)) u_ml_RX6_83 u_im_yX6_step u_se_yX6_step u_in_RX6 u_co_yX6_step hd_yX6_step (hT.at0 80 7) (by decide) rfl rfl ⟨Nat.le_of_ble_eq_true rfl, Nat.le_of_ble_eq_true rfl⟩ ⟨Nat.le_of_ble_eq_true rfl, Nat.le_of_ble_eq_true rfl⟩ (Nat.le_of_ble_eq_true rfl) dX6_wayOn_8 rfl (fun v8 u8 hp8 => ?_)
    obtain ⟨rfl, rfl⟩ := hp8
    refine KSt (st2 := [.int (iI (dmM S q m src 9))]) rfl ?_
    have h90 := hdo.2 src 9 hsrc (Or.inr rfl)
    refine KGoto (tgt := 16) C dX6_wayOn_11 (by decide) ?_
    refine KTop (congrArg iI (show dmM S q m src 9 = wB (dmM S q m) (slm S q m).length left src 0 from (by unfold wB; first | rw [if_pos (by omega)] | rw [if_neg (by omega)]; first | done | rfl))) ?_
    refine KIstore_n (lv' := [(3, .int (iI (wB (dmM S q m) (slm S q m).length left src 0))), (0, .ref (q 80)), (1, .int (iI (left : Int))), (2, .int (iI (src : Int)))]) C dX6_wayOn_16 rfl (by decide) rfl ?_
    refine KIconst C dX6_wayOn_17 ?_
    refine KIstore (lv' := [(4, .int (iI 0)), (3, .int (iI (wB (dmM S q m) (slm S q m).length left src 0))), (0, .ref (q 80)), (1, .int (iI (left : Int))), (2, .int (iI (src : Int)))]) C dX6_wayOn_18 (by decide) rfl ?_
    refine KLv (lv' := [(0, .ref (q 80)), (1, .int (iI (left : Int))), (2, .int (iI (src : Int))), (3, .int (iI (wB (dmM S q m) (slm S q m).length left src 0))), (4, .int (iI 0))]) [2, 3, 4, 1, 0] rfl ?_
    have loop20 : ∀ (nX : Nat) (k : Nat), (slm S q m).length - k < nX → (k ≤ (slm S q m).length) → Wk pX l eX (rmK 3 0 0) sX mX argsX belowX methX cX (MQ belowX (QcG g (P_X6_wayOn S q m left src)) argsX sX 0 0 (ge (gB g))) g 6 0 0 20 [(0, .ref (q 80)), (1, .int (iI (left : Int))), (2, .int (iI (src : Int))), (3, .int (iI (wB (dmM S q m) (slm S q m).length left src k))), (4, .int (iI (k : Int)))] [] S := by
      intro nX
      induction nX with
      | zero => intro k hm; exact absurd hm (Nat.not_lt_zero _)
      | succ nX ih20 =>
        intro k hm20 hk
        refine KRg (fun hR => ?_)
        have hwb := wB_b (left := left) hdo hsrc hk
        refine KIload C dX6_wayOn_20 4 rfl ?_
        refine KAload_n C dX6_wayOn_22 rfl 0 rfl ?_
        refine KGetI C ul_X6 rfl (by decide) 16 16 rfl (by decide) rfl u_fl_RX6_76 (hT.at0 80 7) (v := ((slm S q m).length : Int)) hL.1 dX6_wayOn_23 (fun _ h => h) ?_
        have rb2 := hR.b (q 80) 16 (v := ((slm S q m).length : Int)) hL.1
        refine KIcmp_ge (tgt := 85) C dX6_wayOn_26 (by decide) ⟨by omega, by omega⟩ ⟨by omega, by omega⟩ (fun c26 => ?_) (fun c26 => ?_)
        · refine KIload_n C dX6_wayOn_85 rfl 3 rfl ?_
          refine KIret C rfl rfl (by
            refine ⟨?_, rfl⟩
            rw [← wB_end hdo hsrc hl, show (slm S q m).length = k by omega]) (by decide) (by decide) dX6_wayOn_86
        · refine KIload_n C dX6_wayOn_29 rfl 1 rfl ?_
          refine KIload C dX6_wayOn_30 4 rfl ?_
          refine KIshr (v := iI ((left / 2 ^ k : Nat) : Int)) C dX6_wayOn_32 (ib_shr (by omega) (by omega)) ?_
          refine KIconst C dX6_wayOn_33 ?_
          refine KIand (v := iI ((left / 2 ^ k % 2 : Nat) : Int)) C dX6_wayOn_34 (ib_bit (by omega) (by omega)) ?_
          refine KIconst C dX6_wayOn_35 ?_
          refine KIcmp_ne (tgt := 79) C dX6_wayOn_36 (by decide) ⟨by omega, by omega⟩ ⟨by omega, by omega⟩ (fun c36 => ?_) (fun c36 => ?_)
          · have hb36 : ¬ left.testBit k = true := by rw [tb_0 (by omega)]; exact Bool.false_ne_true
            refine KLvE (lv2 := [(0, .ref (q 80)), (1, .int (iI (left : Int))), (2, .int (iI (src : Int))), (3, .int (iI (wB (dmM S q m) (slm S q m).length left src (k + 1)))), (4, .int (iI (k : Int)))]) (congrArg (fun zz : Int => ([(0, .ref (q 80)), (1, .int (iI (left : Int))), (2, .int (iI (src : Int))), (3, .int (iI zz)), (4, .int (iI (k : Int)))] : List (Nat × Value))) (show (wB (dmM S q m) (slm S q m).length left src k : Int) = wB (dmM S q m) (slm S q m).length left src (k + 1) from (wB_f hb36))) ?_
            refine KIinc (v := ((k + 1 : Nat) : Int)) (lv' := [(4, .int (iI ((k + 1 : Nat) : Int))), (0, .ref (q 80)), (1, .int (iI (left : Int))), (2, .int (iI (src : Int))), (3, .int (iI (wB (dmM S q m) (slm S q m).length left src (k + 1))))]) C dX6_wayOn_79 4 rfl (by omega) (by decide) rfl ?_
            refine KGoto (tgt := 20) C dX6_wayOn_82 (by decide) ?_
            refine KLv (lv' := [(0, .ref (q 80)), (1, .int (iI (left : Int))), (2, .int (iI (src : Int))), (3, .int (iI (wB (dmM S q m) (slm S q m).length left src (k + 1)))), (4, .int (iI ((k + 1 : Nat) : Int)))]) [1, 2, 3, 4, 0] rfl ?_
            exact ih20 (k + 1) (by omega) (by omega)
          · have hb36 : left.testBit k = true := tb_1 (by omega)
            have hge := tb_ge hb36
            have hx5 : left - 2 ^ k < 512 := Nat.lt_of_le_of_lt (Nat.sub_le _ _) hl5
            refine KAload_n C dX6_wayOn_39 rfl 0 rfl ?_
            refine KIload_n C dX6_wayOn_40 rfl 2 rfl ?_
            refine KIload C dX6_wayOn_41 4 rfl ?_
            refine KCallV (As := [.int (iI (src : Int)), .int (iI (k : Int))]) (b := q 80) (st := []) C (ct_X6_step l g S q m src k hT hCm hmm hL (by omega) (by omega)) u_ml_RX6_83 u_im_yX6_step u_se_yX6_step u_in_RX6 u_co_yX6_step hd_yX6_step (hT.at0 80 7) (by decide) rfl rfl ⟨Nat.le_of_ble_eq_true rfl, Nat.le_of_ble_eq_true rfl⟩ ⟨Nat.le_of_ble_eq_true rfl, Nat.le_of_ble_eq_true rfl⟩ (Nat.le_of_ble_eq_true rfl) dX6_wayOn_43 rfl (fun v43 u43 hp43 => ?_)
            obtain ⟨rfl, rfl⟩ := hp43
            refine KSt (st2 := [.int (iI (dmM S q m src k))]) rfl ?_
            refine KAload_n C dX6_wayOn_46 rfl 0 rfl ?_
            refine KGetR C ul_X6 rfl (by decide) 18 18 rfl (by decide) rfl u_fl_RX6_38 (hT.at0 80 7) (b := q 89) (hT.ptr 80 18 89) dX6_wayOn_47 (fun _ h => h) ?_
            refine KBipush C dX6_wayOn_50 (by decide) ?_
            refine KIload_n C dX6_wayOn_52 rfl 1 rfl ?_
            refine KIconst C dX6_wayOn_53 ?_
            refine KIload C dX6_wayOn_54 4 rfl ?_
            refine KIshl (v := iI ((2 ^ k : Nat) : Int)) C dX6_wayOn_56 (ib_shl (by omega)) ?_
            refine KIsub C dX6_wayOn_57 ?_
            refine KTop (congrArg iI (show (left : Int) - ((2 ^ k : Nat) : Int) = ((left - 2 ^ k : Nat) : Int) from (by omega))) ?_
            refine KImul C dX6_wayOn_58 ?_
            refine KIload C dX6_wayOn_59 4 rfl ?_
            refine KIadd C dX6_wayOn_61 ?_
            refine KTop (congrArg iI (show (10 * ((left - 2 ^ k : Nat) : Int)) + (k : Int) = ((10 * (left - 2 ^ k) + k : Nat) : Int) from (by omega))) ?_
            refine KIald  (v := tr (dmM S q m) (slm S q m).length (left - 2 ^ k) k) C 5120 (hT.at0 89 20) (hT.ln0 89 5120) ⟨by omega, by omega⟩ (by omega) (hon.get (by omega) hb36) dX6_wayOn_62 ?_
            have htc := tr_b hdo (slm S q m).length (left - 2 ^ k) k (Nat.le_refl _) (Nat.lt_of_le_of_lt (Nat.sub_le _ _) hl) (Or.inl (by omega))
            have hdk := hdo.2 src k hsrc (Or.inl (by omega))
            refine KIadd C dX6_wayOn_63 ?_
            refine KIstore (lv' := [(5, .int (iI ((dmM S q m src k) + (tr (dmM S q m) (slm S q m).length (left - 2 ^ k) k)))), (0, .ref (q 80)), (1, .int (iI (left : Int))), (2, .int (iI (src : Int))), (3, .int (iI (wB (dmM S q m) (slm S q m).length left src k))), (4, .int (iI (k : Int)))]) C dX6_wayOn_64 (by decide) rfl ?_
            refine KIload C dX6_wayOn_66 0 rfl ?_
            refine KIload_n C dX6_wayOn_68 rfl 4 rfl ?_
            refine KIcmp_ge (tgt := 77) C dX6_wayOn_69 (by decide) ⟨by omega, by omega⟩ ⟨by omega, by omega⟩ (fun c69 => ?_) (fun c69 => ?_)
            · refine KIload_n C dX6_wayOn_77 rfl 4 rfl ?_
              refine KTop (congrArg iI (show wB (dmM S q m) (slm S q m).length left src k = wB (dmM S q m) (slm S q m).length left src (k + 1) from (by rw [wB_t hb36]; unfold minI; split <;> omega))) ?_
              refine KIstore_n (lv' := [(3, .int (iI (wB (dmM S q m) (slm S q m).length left src (k + 1)))), (5, .int (iI ((dmM S q m src k) + (tr (dmM S q m) (slm S q m).length (left - 2 ^ k) k)))), (0, .ref (q 80)), (1, .int (iI (left : Int))), (2, .int (iI (src : Int))), (4, .int (iI (k : Int)))]) C dX6_wayOn_78 rfl (by decide) rfl ?_
              refine KIinc (v := ((k + 1 : Nat) : Int)) (lv' := [(4, .int (iI ((k + 1 : Nat) : Int))), (3, .int (iI (wB (dmM S q m) (slm S q m).length left src (k + 1)))), (5, .int (iI ((dmM S q m src k) + (tr (dmM S q m) (slm S q m).length (left - 2 ^ k) k)))), (0, .ref (q 80)), (1, .int (iI (left : Int))), (2, .int (iI (src : Int)))]) C dX6_wayOn_79 5 rfl (by omega) (by decide) rfl ?_
              refine KGoto (tgt := 20) C dX6_wayOn_82 (by decide) ?_
              refine KLv (lv' := [(0, .ref (q 80)), (1, .int (iI (left : Int))), (2, .int (iI (src : Int))), (3, .int (iI (wB (dmM S q m) (slm S q m).length left src (k + 1)))), (4, .int (iI ((k + 1 : Nat) : Int)))]) [3, 4, 5, 1, 0] rfl ?_
              exact ih20 (k + 1) (by omega) (by omega)
            · refine KIload C dX6_wayOn_72 0 rfl ?_
              refine KGoto (tgt := 78) C dX6_wayOn_74 (by decide) ?_
              refine KTop (congrArg iI (show (dmM S q m src k) + (tr (dmM S q m) (slm S q m).length (left - 2 ^ k) k) = wB (dmM S q m) (slm S q m).length left src (k + 1) from (by rw [wB_t hb36]; unfold minI; split <;> omega))) ?_
              refine KIstore_n (lv' := [(3, .int (iI (wB (dmM S q m) (slm S q m).length left src (k + 1)))), (5, .int (iI ((dmM S q m src k) + (tr (dmM S q m) (slm S q m).length (left - 2 ^ k) k)))), (0, .ref (q 80)), (1, .int (iI (left : Int))), (2, .int (iI (src : Int))), (4, .int (iI (k : Int)))]) C dX6_wayOn_78 rfl (by decide) rfl ?_
              refine KIinc (v := ((k + 1 : Nat) : Int)) (lv' := [(4, .int (iI ((k + 1 : Nat) : Int))), (3, .int (iI (wB (dmM S q m) (slm S q m).length left src (k + 1)))), (5, .int (iI ((dmM S q m src k) + (tr (dmM S q m) (slm S q m).length (left - 2 ^ k) k)))), (0, .ref (q 80)), (1, .int (iI (left : Int))), (2, .int (iI (src : Int)))]) C dX6_wayOn_79 5 rfl (by omega) (by decide) rfl ?_
              refine KGoto (tgt := 20) C dX6_wayOn_82 (by decide) ?_
              refine KLv (lv' := [(0, .ref (q 80)), (1, .int (iI (left : Int))), (2, .int (iI (src : Int))), (3, .int (iI (wB (dmM S q m) (slm S q m).length left src (k + 1)))), (4, .int (iI ((k + 1 : Nat) : Int)))]) [3, 4, 5, 1, 0] rfl ?_
              exact ih20 (k + 1) (by omega) (by omega)
    exact loop20 _ 0 (Nat.lt_succ_self _) (by omega)
def P_X6_layRoute (S : Sto) (q : Nat → Nat) (m : Nat) : Option Value → Sto → Prop := fun v u => v = none ∧ ∃ f, u = wI S f ∧ KeptM S q f ∧ Lm (wI S f) q m ∧ OnM (slm S q m).length (dmM S q m) (f (q 89)) (2 ^ (slm S q m).length)
set_option maxRecDepth 100000 in
set_option maxHeartbeats 4000000 in
theorem ct_X6_layRoute (l : Launch) (g : GG) (S : Sto) (q : Nat → Nat) (m : Nat) (hT : Top S q) (hCm : CfM S q) (hmm : okM (sI S (q 80) 2) (sI S (q 81)) m) : MetS l g yX6_layRoute cX6_layRoute 5 (none) 4 0 0 [.ref (q 80), .int (iI (m : Int))] S (P_X6_layRoute S q m) := by
  refine MetS.of (own := RX6) (lv := [(0, .ref (q 80)), (1, .int (iI (m : Int)))]) (by decide) rfl (Nat.le_of_ble_eq_true rfl) rfl ?_
  intro pX eX sX mX argsX belowX methX cX C hin
  refine KRg (fun hR => ?_)
  obtain ⟨hA1, hA2, hN1, hN2, hG1, hG2⟩ := id hCm
  obtain ⟨hm1, hm2, hm3⟩ := id hmm
  have hlen : (slm S q m).length ≤ 9 := by rw [sl_len]; exact hm2
  have hdo := okM_okDm hCm hmm
  have h512 : 2 ^ (slm S q m).length ≤ 2 ^ 9 := Nat.pow_le_pow_right (by omega) hlen
  refine KAload_n C dX6_layRoute_0 rfl 0 rfl ?_
  refine KIconst C dX6_layRoute_1 ?_
  refine KPutI (ty := .int) (v := 0) C ul_X6 rfl (by decide) 16 16 rfl (by decide) rfl u_fl_RX6_76 tyX6 tyX6_ok nmX6 (hT.at0 80 7) ⟨by omega, by omega⟩ (by decide +kernel) rfl rfl rfl dX6_layRoute_2 (fun _ h => h) ?_
  refine KIconst C dX6_layRoute_5 ?_
  refine KIstore_n (lv' := [(2, .int (iI 0)), (0, .ref (q 80)), (1, .int (iI (m : Int)))]) C dX6_layRoute_6 rfl (by decide) rfl ?_
  refine KLv (lv' := [(0, .ref (q 80)), (1, .int (iI (m : Int))), (2, .int (iI 0))]) [1, 2, 0] rfl ?_
  have loop7 : ∀ (nX : Nat) (p : Nat) (f : Nat → Int → Int), 20 - p < nX → (p ≤ 20) → (LayA S q m p f) → Wk pX l eX (rmK 4 0 0) sX mX argsX belowX methX cX (MQ belowX (QcG g (P_X6_layRoute S q m)) argsX sX 0 0 (ge (gB g))) g 5 0 0 7 [(0, .ref (q 80)), (1, .int (iI (m : Int))), (2, .int (iI (p : Int)))] [] (wI S f) := by
    intro nX
    induction nX with
    | zero => intro p f hm; exact absurd hm (Nat.not_lt_zero _)
    | succ nX ih7 =>
      intro p f hm7 hp hG
      refine KRg (fun hR => ?_)
      have hc2 := hG.2.1
      have hlp : (sl (sI S (q 81)) m p).length ≤ 9 := by rw [sl_len]; exact Nat.le_trans (cntb_mono m hp) hm2
      refine KIload_n C dX6_layRoute_7 rfl 2 rfl ?_
      refine KBipush C dX6_layRoute_8 (by decide) ?_
      refine KIcmp_ge (tgt := 96) C dX6_layRoute_10 (by decide) ⟨by omega, by omega⟩ ⟨by omega, by omega⟩ (fun c10 => ?_) (fun c10 => ?_)
      · have hG20 : LayA S q m 20 f := (show p = 20 by omega) ▸ hG
        refine KIconst C dX6_layRoute_96 ?_
        refine KIstore_n (lv' := [(2, .int (iI 0)), (0, .ref (q 80)), (1, .int (iI (m : Int)))]) C dX6_layRoute_97 rfl (by decide) rfl ?_
        refine KSto (S2 := wI S (row1 f (q 89) (f (q 89)))) (by rw [row1_self]) ?_
        refine KLv (lv' := [(0, .ref (q 80)), (1, .int (iI (m : Int))), (2, .int (iI 0))]) [1, 2, 0] rfl ?_
        have loop98 : ∀ (nX : Nat) (left : Nat) (F : Int → Int), 2 ^ (slm S q m).length - left < nX → (left ≤ 2 ^ (slm S q m).length) → (OnM (slm S q m).length (dmM S q m) F left) → Wk pX l eX (rmK 4 0 0) sX mX argsX belowX methX cX (MQ belowX (QcG g (P_X6_layRoute S q m)) argsX sX 0 0 (ge (gB g))) g 5 0 0 98 [(0, .ref (q 80)), (1, .int (iI (m : Int))), (2, .int (iI (left : Int)))] [] (wI S (row1 f (q 89) F)) := by
          intro nX
          induction nX with
          | zero => intro left F hm; exact absurd hm (Nat.not_lt_zero _)
          | succ nX ih98 =>
            intro left F hm98 hl9 hO
            refine KRg (fun hR => ?_)
            refine KIload_n C dX6_layRoute_98 rfl 2 rfl ?_
            refine KIconst C dX6_layRoute_99 ?_
            refine KAload_n C dX6_layRoute_100 rfl 0 rfl ?_
            refine KGetI (S := wI S (row1 f (q 89) F)) C ul_X6 rfl (by decide) 16 16 rfl (by decide) rfl u_fl_RX6_76 (hT.at0 80 7) (v := ((slm S q m).length : Int)) ((row1_ne _ _ _ (hT.ne 80 89)).trans hG20.2.1) dX6_layRoute_101 (fun _ h => h) ?_
            have rb1 := hR.b (q 80) 16 (v := ((slm S q m).length : Int)) ((row1_ne _ _ _ (hT.ne 80 89)).trans hG20.2.1)
            refine KIshl (v := iI ((2 ^ (slm S q m).length : Nat) : Int)) C dX6_layRoute_104 (ib_shl (by omega)) ?_
            refine KIcmp_ge (tgt := 184) C dX6_layRoute_105 (by decide) ⟨by omega, by omega⟩ ⟨by omega, by omega⟩ (fun c105 => ?_) (fun c105 => ?_)
            · refine KVret C rfl (by
                have hE := hG20.row89 hT hCm hmm F
                exact ⟨rfl, row1 f (q 89) F, rfl, hG20.kept F, hE.2.2.1, OnM.of (fun j => row1_same _ _ _ _) ((show left = 2 ^ (slm S q m).length by omega) ▸ hO)⟩) (by decide) (by decide) dX6_layRoute_184
            · refine KIconst C dX6_layRoute_108 ?_
              refine KIstore_n (lv' := [(3, .int (iI 0)), (0, .ref (q 80)), (1, .int (iI (m : Int))), (2, .int (iI (left : Int)))]) C dX6_layRoute_109 rfl (by decide) rfl ?_
              refine KLv (lv' := [(0, .ref (q 80)), (1, .int (iI (m : Int))), (2, .int (iI (left : Int))), (3, .int (iI 0))]) [1, 2, 3, 0] rfl ?_
              have loop110 : ∀ (nX : Nat) (j : Nat) (F : Int → Int), 10 - j < nX → (j ≤ 10) → (OnMR (slm S q m).length (dmM S q m) F left j) → Wk pX l eX (rmK 4 0 0) sX mX argsX belowX methX cX (MQ belowX (QcG g (P_X6_layRoute S q m)) argsX sX 0 0 (ge (gB g))) g 5 0 0 110 [(0, .ref (q 80)), (1, .int (iI (m : Int))), (2, .int (iI (left : Int))), (3, .int (iI (j : Int)))] [] (wI S (row1 f (q 89) F)) := by
                intro nX
                induction nX with
                | zero => intro j F hm; exact absurd hm (Nat.not_lt_zero _)
                | succ nX ih110 =>
                  intro j F hm110 hj hO2
                  refine KRg (fun hR => ?_)
                  have hlt : left < 2 ^ (slm S q m).length := by omega
                  have hl5 : left < 512 := Nat.lt_of_lt_of_le hlt h512
                  refine KIload_n C dX6_layRoute_110 rfl 3 rfl ?_
                  refine KBipush C dX6_layRoute_111 (by decide) ?_
                  refine KIcmp_ge (tgt := 178) C dX6_layRoute_113 (by decide) ⟨by omega, by omega⟩ ⟨by omega, by omega⟩ (fun c113 => ?_) (fun c113 => ?_)
                  · refine KIinc (v := ((left + 1 : Nat) : Int)) (lv' := [(2, .int (iI ((left + 1 : Nat) : Int))), (0, .ref (q 80)), (1, .int (iI (m : Int))), (3, .int (iI (j : Int)))]) C dX6_layRoute_178 2 rfl (by omega) (by decide) rfl ?_
                    refine KGoto (tgt := 98) C dX6_layRoute_181 (by decide) ?_
                    refine KLv (lv' := [(0, .ref (q 80)), (1, .int (iI (m : Int))), (2, .int (iI ((left + 1 : Nat) : Int)))]) [1, 2, 0] rfl ?_
                    exact ih98 (left + 1) F (by omega) (by omega) (((show j = 10 by omega) ▸ hO2 : OnMR (slm S q m).length (dmM S q m) F left 10).done hlen)
                  · refine KIload_n C dX6_layRoute_116 rfl 3 rfl ?_
                    refine KBipush C dX6_layRoute_117 (by decide) ?_
                    refine KIcmp_eq (tgt := 138) C dX6_layRoute_119 (by decide) ⟨by omega, by omega⟩ ⟨by omega, by omega⟩ (fun c119 => ?_) (fun c119 => ?_)
                    · refine KIconst C dX6_layRoute_138 ?_
                      refine KGoto (tgt := 143) C dX6_layRoute_139 (by decide) ?_
                      refine KIstore (lv' := [(4, .int (iI 1)), (0, .ref (q 80)), (1, .int (iI (m : Int))), (2, .int (iI (left : Int))), (3, .int (iI (j : Int)))]) C dX6_layRoute_143 (by decide) rfl ?_
                      refine KAload_n C dX6_layRoute_145 rfl 1 rfl ?_
                      refine KGetR (S := wI S (row1 f (q 89) F)) C ul_X6 rfl (by decide) 18 18 rfl (by decide) rfl u_fl_RX6_38 (hT.at0 80 7) (b := q 89) (hT.ptr 80 18 89) dX6_layRoute_146 (fun _ h => h) ?_
                      refine KBipush C dX6_layRoute_149 (by decide) ?_
                      refine KIload_n C dX6_layRoute_151 rfl 3 rfl ?_
                      refine KImul C dX6_layRoute_152 ?_
                      refine KIload_n C dX6_layRoute_153 rfl 4 rfl ?_
                      refine KIadd C dX6_layRoute_154 ?_
                      refine KTop (congrArg iI (show (10 * (left : Int)) + (j : Int) = ((10 * left + j : Nat) : Int) from (by omega))) ?_
                      refine KIload C dX6_layRoute_155 0 rfl ?_
                      refine KIf_eq (tgt := 169) C dX6_layRoute_157 (by decide) ⟨by omega, by omega⟩ (fun h => absurd h (by decide)) (fun _ => ?_)
                      refine KAload_n C dX6_layRoute_160 rfl 1 rfl ?_
                      refine KIload_n C dX6_layRoute_161 rfl 3 rfl ?_
                      refine KIload_n C dX6_layRoute_162 rfl 4 rfl ?_
                      have hE := hG20.row89 hT hCm hmm F
                      refine KCallV (As := [.int (iI (left : Int)), .int (iI (j : Int))]) (b := q 80) (st := [.int (iI ((10 * left + j : Nat) : Int)), .ref (q 89)]) C (ct_X6_wayOn l g (wI S (row1 f (q 89) F)) q m left j hT hE.1 hE.2.1 hE.2.2.1 (by rw [hE.2.2.2.1]; omega) (by rw [hE.2.2.2.1]; exact hlt) (by rw [hE.2.2.2.1, hE.2.2.2.2]; exact OnM.of (fun j => row1_same _ _ _ _) hO2.1)) u_ml_RX6_79 u_im_yX6_wayOn u_se_yX6_wayOn u_in_RX6 u_co_yX6_wayOn hd_yX6_wayOn (hT.at0 80 7) (by decide) rfl rfl ⟨Nat.le_of_ble_eq_true rfl, Nat.le_of_ble_eq_true rfl⟩ ⟨Nat.le_of_ble_eq_true rfl, Nat.le_of_ble_eq_true rfl⟩ (Nat.le_of_ble_eq_true rfl) dX6_layRoute_163 rfl (fun v163 u163 hp163 => ?_)
                      obtain ⟨rfl, rfl⟩ := hp163
                      refine KSt (st2 := [.int (iI (tr (dmM (wI S (row1 f (q 89) F)) q m) (slm (wI S (row1 f (q 89) F)) q m).length left j)), .int (iI ((10 * left + j : Nat) : Int)), .ref (q 89)]) rfl ?_
                      refine KRg (fun hR => ?_)
                      refine KTop (congrArg iI (show tr (dmM (wI S (row1 f (q 89) F)) q m) (slm (wI S (row1 f (q 89) F)) q m).length left j = tr (dmM S q m) (slm S q m).length left j from (by rw [hE.2.2.2.1, hE.2.2.2.2]))) ?_
                      have htb := tr_b hdo (slm S q m).length left j (Nat.le_refl _) hlt (by omega)
                      refine KGoto (tgt := 171) C dX6_layRoute_166 (by decide) ?_
                      refine KIast (S := wI S (row1 f (q 89) F)) C 5120 (hT.at0 89 20) (hT.ln0 89 5120) ⟨by omega, by omega⟩ (by omega) ⟨by omega, by omega⟩ dX6_layRoute_171 ?_
                      refine KSto (S2 := wI S (row1 f (q 89) (upd1 F ((10 * left + j : Nat) : Int) (tr (dmM S q m) (slm S q m).length left j)))) (congrArg (wI S) (up2_row1 _ _ _ _ _)) ?_
                      have hO3 := hO2.put (v := tr (dmM S q m) (slm S q m).length left j) (by omega) hlen (by first | exact fun _ => rfl | exact fun h => by rcases h with ⟨h1, h2⟩ | h1 <;> first | omega | (rw [hb35] at h2; cases h2))
                      refine KIinc (v := ((j + 1 : Nat) : Int)) (lv' := [(3, .int (iI ((j + 1 : Nat) : Int))), (4, .int (iI 1)), (0, .ref (q 80)), (1, .int (iI (m : Int))), (2, .int (iI (left : Int)))]) C dX6_layRoute_172 4 rfl (by omega) (by decide) rfl ?_
                      refine KGoto (tgt := 110) C dX6_layRoute_175 (by decide) ?_
                      refine KLv (lv' := [(0, .ref (q 80)), (1, .int (iI (m : Int))), (2, .int (iI (left : Int))), (3, .int (iI ((j + 1 : Nat) : Int)))]) [2, 3, 4, 0] rfl ?_
                      exact ih110 (j + 1) (upd1 F ((10 * left + j : Nat) : Int) (tr (dmM S q m) (slm S q m).length left j)) (by omega) (by omega) hO3
                    · refine KIload_n C dX6_layRoute_122 rfl 3 rfl ?_
                      refine KAload_n C dX6_layRoute_123 rfl 0 rfl ?_
                      refine KGetI (S := wI S (row1 f (q 89) F)) C ul_X6 rfl (by decide) 16 16 rfl (by decide) rfl u_fl_RX6_76 (hT.at0 80 7) (v := ((slm S q m).length : Int)) ((row1_ne _ _ _ (hT.ne 80 89)).trans hG20.2.1) dX6_layRoute_124 (fun _ h => h) ?_
                      have rb2 := hR.b (q 80) 16 (v := ((slm S q m).length : Int)) ((row1_ne _ _ _ (hT.ne 80 89)).trans hG20.2.1)
                      refine KIcmp_ge (tgt := 142) C dX6_layRoute_127 (by decide) ⟨by omega, by omega⟩ ⟨by omega, by omega⟩ (fun c127 => ?_) (fun c127 => ?_)
                      · refine KIconst C dX6_layRoute_142 ?_
                        refine KIstore (lv' := [(4, .int (iI 0)), (0, .ref (q 80)), (1, .int (iI (m : Int))), (2, .int (iI (left : Int))), (3, .int (iI (j : Int)))]) C dX6_layRoute_143 (by decide) rfl ?_
                        refine KAload_n C dX6_layRoute_145 rfl 1 rfl ?_
                        refine KGetR (S := wI S (row1 f (q 89) F)) C ul_X6 rfl (by decide) 18 18 rfl (by decide) rfl u_fl_RX6_38 (hT.at0 80 7) (b := q 89) (hT.ptr 80 18 89) dX6_layRoute_146 (fun _ h => h) ?_
                        refine KBipush C dX6_layRoute_149 (by decide) ?_
                        refine KIload_n C dX6_layRoute_151 rfl 3 rfl ?_
                        refine KImul C dX6_layRoute_152 ?_
                        refine KIload_n C dX6_layRoute_153 rfl 4 rfl ?_
                        refine KIadd C dX6_layRoute_154 ?_
                        refine KTop (congrArg iI (show (10 * (left : Int)) + (j : Int) = ((10 * left + j : Nat) : Int) from (by omega))) ?_
                        refine KIload C dX6_layRoute_155 0 rfl ?_
                        refine KIf_eq (tgt := 169) C dX6_layRoute_157 (by decide) ⟨by omega, by omega⟩ (fun _ => ?_) (fun h => absurd h (by decide))
                        refine KLdc (n := 1000000000) C u_ct_RX6_82 (by decide) dX6_layRoute_169 ?_
                        refine KIast (S := wI S (row1 f (q 89) F)) C 5120 (hT.at0 89 20) (hT.ln0 89 5120) ⟨by omega, by omega⟩ (by omega) ⟨by omega, by omega⟩ dX6_layRoute_171 ?_
                        refine KSto (S2 := wI S (row1 f (q 89) (upd1 F ((10 * left + j : Nat) : Int) 1000000000))) (congrArg (wI S) (up2_row1 _ _ _ _ _)) ?_
                        have hO3 := hO2.put (v := 1000000000) (by omega) hlen (by first | exact fun _ => rfl | exact fun h => by rcases h with ⟨h1, h2⟩ | h1 <;> first | omega | (rw [hb35] at h2; cases h2))
                        refine KIinc (v := ((j + 1 : Nat) : Int)) (lv' := [(3, .int (iI ((j + 1 : Nat) : Int))), (4, .int (iI 0)), (0, .ref (q 80)), (1, .int (iI (m : Int))), (2, .int (iI (left : Int)))]) C dX6_layRoute_172 4 rfl (by omega) (by decide) rfl ?_
                        refine KGoto (tgt := 110) C dX6_layRoute_175 (by decide) ?_
                        refine KLv (lv' := [(0, .ref (q 80)), (1, .int (iI (m : Int))), (2, .int (iI (left : Int))), (3, .int (iI ((j + 1 : Nat) : Int)))]) [2, 3, 4, 0] rfl ?_
                        exact ih110 (j + 1) (upd1 F ((10 * left + j : Nat) : Int) 1000000000) (by omega) (by omega) hO3
                      · refine KIload_n C dX6_layRoute_130 rfl 2 rfl ?_
                        refine KIload_n C dX6_layRoute_131 rfl 3 rfl ?_
                        refine KIshr (v := iI ((left / 2 ^ j : Nat) : Int)) C dX6_layRoute_132 (ib_shr (by omega) (by omega)) ?_
                        refine KIconst C dX6_layRoute_133 ?_
                        refine KIand (v := iI ((left / 2 ^ j % 2 : Nat) : Int)) C dX6_layRoute_134 (ib_bit (by omega) (by omega)) ?_
                        refine KIf_ne (tgt := 142) C dX6_layRoute_135 (by decide) ⟨by omega, by omega⟩ (fun c135 => ?_) (fun c135 => ?_)
                        · have hb35 : left.testBit j = true := tb_1 (by omega)
                          refine KIconst C dX6_layRoute_142 ?_
                          refine KIstore (lv' := [(4, .int (iI 0)), (0, .ref (q 80)), (1, .int (iI (m : Int))), (2, .int (iI (left : Int))), (3, .int (iI (j : Int)))]) C dX6_layRoute_143 (by decide) rfl ?_
                          refine KAload_n C dX6_layRoute_145 rfl 1 rfl ?_
                          refine KGetR (S := wI S (row1 f (q 89) F)) C ul_X6 rfl (by decide) 18 18 rfl (by decide) rfl u_fl_RX6_38 (hT.at0 80 7) (b := q 89) (hT.ptr 80 18 89) dX6_layRoute_146 (fun _ h => h) ?_
                          refine KBipush C dX6_layRoute_149 (by decide) ?_
                          refine KIload_n C dX6_layRoute_151 rfl 3 rfl ?_
                          refine KImul C dX6_layRoute_152 ?_
                          refine KIload_n C dX6_layRoute_153 rfl 4 rfl ?_
                          refine KIadd C dX6_layRoute_154 ?_
                          refine KTop (congrArg iI (show (10 * (left : Int)) + (j : Int) = ((10 * left + j : Nat) : Int) from (by omega))) ?_
                          refine KIload C dX6_layRoute_155 0 rfl ?_
                          refine KIf_eq (tgt := 169) C dX6_layRoute_157 (by decide) ⟨by omega, by omega⟩ (fun _ => ?_) (fun h => absurd h (by decide))
                          refine KLdc (n := 1000000000) C u_ct_RX6_82 (by decide) dX6_layRoute_169 ?_
                          refine KIast (S := wI S (row1 f (q 89) F)) C 5120 (hT.at0 89 20) (hT.ln0 89 5120) ⟨by omega, by omega⟩ (by omega) ⟨by omega, by omega⟩ dX6_layRoute_171 ?_
                          refine KSto (S2 := wI S (row1 f (q 89) (upd1 F ((10 * left + j : Nat) : Int) 1000000000))) (congrArg (wI S) (up2_row1 _ _ _ _ _)) ?_
                          have hO3 := hO2.put (v := 1000000000) (by omega) hlen (by first | exact fun _ => rfl | exact fun h => by rcases h with ⟨h1, h2⟩ | h1 <;> first | omega | (rw [hb35] at h2; cases h2))
                          refine KIinc (v := ((j + 1 : Nat) : Int)) (lv' := [(3, .int (iI ((j + 1 : Nat) : Int))), (4, .int (iI 0)), (0, .ref (q 80)), (1, .int (iI (m : Int))), (2, .int (iI (left : Int)))]) C dX6_layRoute_172 4 rfl (by omega) (by decide) rfl ?_
                          refine KGoto (tgt := 110) C dX6_layRoute_175 (by decide) ?_
                          refine KLv (lv' := [(0, .ref (q 80)), (1, .int (iI (m : Int))), (2, .int (iI (left : Int))), (3, .int (iI ((j + 1 : Nat) : Int)))]) [2, 3, 4, 0] rfl ?_
                          exact ih110 (j + 1) (upd1 F ((10 * left + j : Nat) : Int) 1000000000) (by omega) (by omega) hO3
                        · have hb35 : left.testBit j = false := tb_0 (by omega)
                          refine KIconst C dX6_layRoute_138 ?_
                          refine KGoto (tgt := 143) C dX6_layRoute_139 (by decide) ?_
                          refine KIstore (lv' := [(4, .int (iI 1)), (0, .ref (q 80)), (1, .int (iI (m : Int))), (2, .int (iI (left : Int))), (3, .int (iI (j : Int)))]) C dX6_layRoute_143 (by decide) rfl ?_
                          refine KAload_n C dX6_layRoute_145 rfl 1 rfl ?_
                          refine KGetR (S := wI S (row1 f (q 89) F)) C ul_X6 rfl (by decide) 18 18 rfl (by decide) rfl u_fl_RX6_38 (hT.at0 80 7) (b := q 89) (hT.ptr 80 18 89) dX6_layRoute_146 (fun _ h => h) ?_
                          refine KBipush C dX6_layRoute_149 (by decide) ?_
                          refine KIload_n C dX6_layRoute_151 rfl 3 rfl ?_
                          refine KImul C dX6_layRoute_152 ?_
                          refine KIload_n C dX6_layRoute_153 rfl 4 rfl ?_
                          refine KIadd C dX6_layRoute_154 ?_
                          refine KTop (congrArg iI (show (10 * (left : Int)) + (j : Int) = ((10 * left + j : Nat) : Int) from (by omega))) ?_
                          refine KIload C dX6_layRoute_155 0 rfl ?_
                          refine KIf_eq (tgt := 169) C dX6_layRoute_157 (by decide) ⟨by omega, by omega⟩ (fun h => absurd h (by decide)) (fun _ => ?_)
                          refine KAload_n C dX6_layRoute_160 rfl 1 rfl ?_
                          refine KIload_n C dX6_layRoute_161 rfl 3 rfl ?_
                          refine KIload_n C dX6_layRoute_162 rfl 4 rfl ?_
                          have hE := hG20.row89 hT hCm hmm F
                          refine KCallV (As := [.int (iI (left : Int)), .int (iI (j : Int))]) (b := q 80) (st := [.int (iI ((10 * left + j : Nat) : Int)), .ref (q 89)]) C (ct_X6_wayOn l g (wI S (row1 f (q 89) F)) q m left j hT hE.1 hE.2.1 hE.2.2.1 (by rw [hE.2.2.2.1]; omega) (by rw [hE.2.2.2.1]; exact hlt) (by rw [hE.2.2.2.1, hE.2.2.2.2]; exact OnM.of (fun j => row1_same _ _ _ _) hO2.1)) u_ml_RX6_79 u_im_yX6_wayOn u_se_yX6_wayOn u_in_RX6 u_co_yX6_wayOn hd_yX6_wayOn (hT.at0 80 7) (by decide) rfl rfl ⟨Nat.le_of_ble_eq_true rfl, Nat.le_of_ble_eq_true rfl⟩ ⟨Nat.le_of_ble_eq_true rfl, Nat.le_of_ble_eq_true rfl⟩ (Nat.le_of_ble_eq_true rfl) dX6_layRoute_163 rfl (fun v163 u163 hp163 => ?_)
                          obtain ⟨rfl, rfl⟩ := hp163
                          refine KSt (st2 := [.int (iI (tr (dmM (wI S (row1 f (q 89) F)) q m) (slm (wI S (row1 f (q 89) F)) q m).length left j)), .int (iI ((10 * left + j : Nat) : Int)), .ref (q 89)]) rfl ?_
                          refine KRg (fun hR => ?_)
                          refine KTop (congrArg iI (show tr (dmM (wI S (row1 f (q 89) F)) q m) (slm (wI S (row1 f (q 89) F)) q m).length left j = tr (dmM S q m) (slm S q m).length left j from (by rw [hE.2.2.2.1, hE.2.2.2.2]))) ?_
                          have htb := tr_b hdo (slm S q m).length left j (Nat.le_refl _) hlt (by omega)
                          refine KGoto (tgt := 171) C dX6_layRoute_166 (by decide) ?_
                          refine KIast (S := wI S (row1 f (q 89) F)) C 5120 (hT.at0 89 20) (hT.ln0 89 5120) ⟨by omega, by omega⟩ (by omega) ⟨by omega, by omega⟩ dX6_layRoute_171 ?_
                          refine KSto (S2 := wI S (row1 f (q 89) (upd1 F ((10 * left + j : Nat) : Int) (tr (dmM S q m) (slm S q m).length left j)))) (congrArg (wI S) (up2_row1 _ _ _ _ _)) ?_
                          have hO3 := hO2.put (v := tr (dmM S q m) (slm S q m).length left j) (by omega) hlen (by first | exact fun _ => rfl | exact fun h => by rcases h with ⟨h1, h2⟩ | h1 <;> first | omega | (rw [hb35] at h2; cases h2))
                          refine KIinc (v := ((j + 1 : Nat) : Int)) (lv' := [(3, .int (iI ((j + 1 : Nat) : Int))), (4, .int (iI 1)), (0, .ref (q 80)), (1, .int (iI (m : Int))), (2, .int (iI (left : Int)))]) C dX6_layRoute_172 4 rfl (by omega) (by decide) rfl ?_
                          refine KGoto (tgt := 110) C dX6_layRoute_175 (by decide) ?_
                          refine KLv (lv' := [(0, .ref (q 80)), (1, .int (iI (m : Int))), (2, .int (iI (left : Int))), (3, .int (iI ((j + 1 : Nat) : Int)))]) [2, 3, 4, 0] rfl ?_
                          exact ih110 (j + 1) (upd1 F ((10 * left + j : Nat) : Int) (tr (dmM S q m) (slm S q m).length left j)) (by omega) (by omega) hO3
              exact loop110 _ 0 F (Nat.lt_succ_self _) (by omega) ⟨hO, fun src h => absurd h (Nat.not_lt_zero _)⟩
        exact loop98 _ 0 (f (q 89)) (Nat.lt_succ_self _) (Nat.zero_le _) (fun left src h => absurd h (Nat.not_lt_zero _))
      · refine KIload_n C dX6_layRoute_13 rfl 1 rfl ?_
        refine KIload_n C dX6_layRoute_14 rfl 2 rfl ?_
        refine KIshr (v := iI ((m / 2 ^ p : Nat) : Int)) C dX6_layRoute_15 (ib_shr (by omega) (by omega)) ?_
        refine KIconst C dX6_layRoute_16 ?_
        refine KIand (v := iI ((m / 2 ^ p % 2 : Nat) : Int)) C dX6_layRoute_17 (ib_bit (by omega) (by omega)) ?_
        refine KIconst C dX6_layRoute_18 ?_
        refine KIcmp_ne (tgt := 90) C dX6_layRoute_19 (by decide) ⟨by omega, by omega⟩ ⟨by omega, by omega⟩ (fun c19 => ?_) (fun c19 => ?_)
        · have hb19 : ¬ m.testBit p = true := by rw [tb_0 (by omega)]; exact Bool.false_ne_true
          refine KIinc (v := ((p + 1 : Nat) : Int)) (lv' := [(2, .int (iI ((p + 1 : Nat) : Int))), (0, .ref (q 80)), (1, .int (iI (m : Int)))]) C dX6_layRoute_90 2 rfl (by omega) (by decide) rfl ?_
          refine KGoto (tgt := 7) C dX6_layRoute_93 (by decide) ?_
          refine KLv (lv' := [(0, .ref (q 80)), (1, .int (iI (m : Int))), (2, .int (iI ((p + 1 : Nat) : Int)))]) [1, 2, 0] rfl ?_
          exact ih7 (p + 1) f (by omega) (by omega) (by first | exact hG.skip (by assumption) | exact hG.put hT (by assumption))
        · have hb19 : m.testBit p = true := tb_1 (by omega)
          have hlt9 : (sl (sI S (q 81)) m p).length < 9 := by
            rw [sl_len]
            have h1 := cntb_mono m (show p + 1 ≤ 20 by omega)
            have h2 : cntb m (p + 1) = cntb m p + 1 := by
              show cntb m p + (if m.testBit p = true then 1 else 0) = _
              rw [if_pos hb19]
            omega
          refine KAload_n C dX6_layRoute_22 rfl 0 rfl ?_
          refine KGetI (S := wI S f) C ul_X6 rfl (by decide) 16 16 rfl (by decide) rfl u_fl_RX6_76 (hT.at0 80 7) (v := ((sl (sI S (q 81)) m p).length : Int)) hG.2.1 dX6_layRoute_23 (fun _ h => h) ?_
          have rb3 := hR.b (q 80) 16 (v := ((sl (sI S (q 81)) m p).length : Int)) hG.2.1
          refine KIstore_n (lv' := [(3, .int (iI ((sl (sI S (q 81)) m p).length : Int))), (0, .ref (q 80)), (1, .int (iI (m : Int))), (2, .int (iI (p : Int)))]) C dX6_layRoute_26 rfl (by decide) rfl ?_
          refine KSto (S2 := wI S (row1 f (q 88) (shf (f (q 88)) (sl (sI S (q 81)) m p).length (sl (sI S (q 81)) m p).length))) (by rw [shf_self, row1_self]) ?_
          refine KLv (lv' := [(0, .ref (q 80)), (1, .int (iI (m : Int))), (2, .int (iI (p : Int))), (3, .int (iI ((sl (sI S (q 81)) m p).length : Int)))]) [1, 2, 3, 0] rfl ?_
          have loop27 : ∀ (nX : Nat) (a : Nat), a < nX → (a ≤ (sl (sI S (q 81)) m p).length) → (insPosN (fun j => decide (sI S (q 81) (p : Int) < sI S (q 81) (f (q 88) (j : Int)))) (sl (sI S (q 81)) m p).length = insPosN (fun j => decide (sI S (q 81) (p : Int) < sI S (q 81) (f (q 88) (j : Int)))) a) → Wk pX l eX (rmK 4 0 0) sX mX argsX belowX methX cX (MQ belowX (QcG g (P_X6_layRoute S q m)) argsX sX 0 0 (ge (gB g))) g 5 0 0 27 [(0, .ref (q 80)), (1, .int (iI (m : Int))), (2, .int (iI (p : Int))), (3, .int (iI (a : Int)))] [] (wI S (row1 f (q 88) (shf (f (q 88)) a (sl (sI S (q 81)) m p).length))) := by
            intro nX
            induction nX with
            | zero => intro a hm; exact absurd hm (Nat.not_lt_zero _)
            | succ nX ih27 =>
              intro a hm27 ha hpos
              refine KRg (fun hR => ?_)
              refine KIload_n C dX6_layRoute_27 rfl 3 rfl ?_
              refine KIf_le (tgt := 73) C dX6_layRoute_28 (by decide) ⟨by omega, by omega⟩ (fun c28 => ?_) (fun c28 => ?_)
              · have e9 : insPosN (fun j => decide (sI S (q 81) (p : Int) < sI S (q 81) (f (q 88) (j : Int)))) (sl (sI S (q 81)) m p).length = a := hpos.trans (insPosN_f' (Or.inl (by omega)))
                refine KAload_n C dX6_layRoute_73 rfl 0 rfl ?_
                refine KGetR (S := wI S (row1 f (q 88) (shf (f (q 88)) a (sl (sI S (q 81)) m p).length))) C ul_X6 rfl (by decide) 17 17 rfl (by decide) rfl u_fl_RX6_35 (hT.at0 80 7) (b := q 88) (hT.ptr 80 17 88) dX6_layRoute_74 (fun _ h => h) ?_
                refine KIload_n C dX6_layRoute_77 rfl 3 rfl ?_
                refine KIload_n C dX6_layRoute_78 rfl 2 rfl ?_
                refine KIast (S := wI S (row1 f (q 88) (shf (f (q 88)) a (sl (sI S (q 81)) m p).length))) C 9 (hT.at0 88 20) (hT.ln0 88 9) ⟨by omega, by omega⟩ (by omega) ⟨by omega, by omega⟩ dX6_layRoute_79 ?_
                refine KSto (S2 := wI S (row1 f (q 88) (insAt (f (q 88)) (insPosN (fun j => decide (sI S (q 81) (p : Int) < sI S (q 81) (f (q 88) (j : Int)))) (sl (sI S (q 81)) m p).length) (sl (sI S (q 81)) m p).length (p : Int)))) (by rw [e9]; exact congrArg (wI S) (up2_row1 _ _ _ _ _)) ?_
                refine KAload_n C dX6_layRoute_80 rfl 0 rfl ?_
                refine KDup C dX6_layRoute_81 rfl ?_
                refine KGetI (S := wI S (row1 f (q 88) (insAt (f (q 88)) (insPosN (fun j => decide (sI S (q 81) (p : Int) < sI S (q 81) (f (q 88) (j : Int)))) (sl (sI S (q 81)) m p).length) (sl (sI S (q 81)) m p).length (p : Int)))) C ul_X6 rfl (by decide) 16 16 rfl (by decide) rfl u_fl_RX6_76 (hT.at0 80 7) (v := ((sl (sI S (q 81)) m p).length : Int)) ((row1_ne _ _ _ (hT.ne 80 88)).trans hG.2.1) dX6_layRoute_82 (fun _ h => h) ?_
                have rb4 := hR.b (q 80) 16 (v := ((sl (sI S (q 81)) m p).length : Int)) ((row1_ne _ _ _ (hT.ne 80 88)).trans hG.2.1)
                refine KIconst C dX6_layRoute_85 ?_
                refine KIadd C dX6_layRoute_86 ?_
                refine KPutI (S := wI S (row1 f (q 88) (insAt (f (q 88)) (insPosN (fun j => decide (sI S (q 81) (p : Int) < sI S (q 81) (f (q 88) (j : Int)))) (sl (sI S (q 81)) m p).length) (sl (sI S (q 81)) m p).length (p : Int)))) (ty := .int) (v := ((sl (sI S (q 81)) m p).length : Int) + 1) C ul_X6 rfl (by decide) 16 16 rfl (by decide) rfl u_fl_RX6_76 tyX6 tyX6_ok nmX6 (hT.at0 80 7) ⟨by omega, by omega⟩ (by decide +kernel) rfl rfl rfl dX6_layRoute_87 (fun _ h => h) ?_
                refine KIinc (v := ((p + 1 : Nat) : Int)) (lv' := [(2, .int (iI ((p + 1 : Nat) : Int))), (0, .ref (q 80)), (1, .int (iI (m : Int))), (3, .int (iI (a : Int)))]) C dX6_layRoute_90 2 rfl (by omega) (by decide) rfl ?_
                refine KGoto (tgt := 7) C dX6_layRoute_93 (by decide) ?_
                refine KLv (lv' := [(0, .ref (q 80)), (1, .int (iI (m : Int))), (2, .int (iI ((p + 1 : Nat) : Int)))]) [1, 2, 0] rfl ?_
                exact ih7 (p + 1) (up2 (row1 f (q 88) (insAt (f (q 88)) (insPosN (fun j => decide (sI S (q 81) (p : Int) < sI S (q 81) (f (q 88) (j : Int)))) (sl (sI S (q 81)) m p).length) (sl (sI S (q 81)) m p).length (p : Int))) (q 80) 16 (((sl (sI S (q 81)) m p).length : Int) + 1)) (by omega) (by omega) (by first | exact hG.skip (by assumption) | exact hG.put hT (by assumption))
              · have hst := hG.2.2 (a - 1) (by omega)
                have hsm := (sl_mem (sI S (q 81)) m p (a - 1) (by omega)).1
                refine KAload_n C dX6_layRoute_31 rfl 0 rfl ?_
                refine KGetR (S := wI S (row1 f (q 88) (shf (f (q 88)) a (sl (sI S (q 81)) m p).length))) C ul_X6 rfl (by decide) 5 5 rfl (by decide) rfl u_fl_RX6_13 (hT.at0 80 7) (b := q 81) (hT.ptr 80 5 81) dX6_layRoute_32 (fun _ h => h) ?_
                refine KAload_n C dX6_layRoute_35 rfl 0 rfl ?_
                refine KGetR (S := wI S (row1 f (q 88) (shf (f (q 88)) a (sl (sI S (q 81)) m p).length))) C ul_X6 rfl (by decide) 17 17 rfl (by decide) rfl u_fl_RX6_35 (hT.at0 80 7) (b := q 88) (hT.ptr 80 17 88) dX6_layRoute_36 (fun _ h => h) ?_
                refine KIload_n C dX6_layRoute_39 rfl 3 rfl ?_
                refine KIconst C dX6_layRoute_40 ?_
                refine KIsub C dX6_layRoute_41 ?_
                refine KTop (congrArg iI (show (a : Int) - 1 = ((a - 1 : Nat) : Int) from (by omega))) ?_
                refine KIald (S := wI S (row1 f (q 88) (shf (f (q 88)) a (sl (sI S (q 81)) m p).length)))  (v := f (q 88) ((a - 1 : Nat) : Int)) C 9 (hT.at0 88 20) (hT.ln0 88 9) ⟨by omega, by omega⟩ (by omega) ((row1_same _ _ _ _).trans (shf_lo _ (by omega))) dX6_layRoute_42 ?_
                have rb5 := hR.b (q 88) ((a - 1 : Nat) : Int) (v := f (q 88) ((a - 1 : Nat) : Int)) ((row1_same _ _ _ _).trans (shf_lo _ (by omega)))
                refine KIald (S := wI S (row1 f (q 88) (shf (f (q 88)) a (sl (sI S (q 81)) m p).length)))  (v := sI S (q 81) (f (q 88) ((a - 1 : Nat) : Int))) C 20 (hT.at0 81 20) (hT.ln0 81 20) ⟨by omega, by omega⟩ (by omega) ((row1_ne _ _ _ (hT.ne 81 88)).trans (hG.1 _ _ (fun h => absurd h.1 (hT.ne 81 80)) (hT.ne 81 88))) dX6_layRoute_43 ?_
                have rb6 := hR.b (q 81) (f (q 88) ((a - 1 : Nat) : Int)) (v := sI S (q 81) (f (q 88) ((a - 1 : Nat) : Int))) ((row1_ne _ _ _ (hT.ne 81 88)).trans (hG.1 _ _ (fun h => absurd h.1 (hT.ne 81 80)) (hT.ne 81 88)))
                refine KAload_n C dX6_layRoute_44 rfl 0 rfl ?_
                refine KGetR (S := wI S (row1 f (q 88) (shf (f (q 88)) a (sl (sI S (q 81)) m p).length))) C ul_X6 rfl (by decide) 5 5 rfl (by decide) rfl u_fl_RX6_13 (hT.at0 80 7) (b := q 81) (hT.ptr 80 5 81) dX6_layRoute_45 (fun _ h => h) ?_
                refine KIload_n C dX6_layRoute_48 rfl 2 rfl ?_
                refine KIald (S := wI S (row1 f (q 88) (shf (f (q 88)) a (sl (sI S (q 81)) m p).length)))  (v := sI S (q 81) (p : Int)) C 20 (hT.at0 81 20) (hT.ln0 81 20) ⟨by omega, by omega⟩ (by omega) ((row1_ne _ _ _ (hT.ne 81 88)).trans (hG.1 _ _ (fun h => absurd h.1 (hT.ne 81 80)) (hT.ne 81 88))) dX6_layRoute_49 ?_
                have rb7 := hR.b (q 81) (p : Int) (v := sI S (q 81) (p : Int)) ((row1_ne _ _ _ (hT.ne 81 88)).trans (hG.1 _ _ (fun h => absurd h.1 (hT.ne 81 80)) (hT.ne 81 88)))
                refine KIcmp_le (tgt := 73) C dX6_layRoute_50 (by decide) ⟨by omega, by omega⟩ ⟨by omega, by omega⟩ (fun c50 => ?_) (fun c50 => ?_)
                · have e9 : insPosN (fun j => decide (sI S (q 81) (p : Int) < sI S (q 81) (f (q 88) (j : Int)))) (sl (sI S (q 81)) m p).length = a := hpos.trans (insPosN_f' (Or.inr ⟨by omega, decide_eq_false (by omega)⟩))
                  refine KAload_n C dX6_layRoute_73 rfl 0 rfl ?_
                  refine KGetR (S := wI S (row1 f (q 88) (shf (f (q 88)) a (sl (sI S (q 81)) m p).length))) C ul_X6 rfl (by decide) 17 17 rfl (by decide) rfl u_fl_RX6_35 (hT.at0 80 7) (b := q 88) (hT.ptr 80 17 88) dX6_layRoute_74 (fun _ h => h) ?_
                  refine KIload_n C dX6_layRoute_77 rfl 3 rfl ?_
                  refine KIload_n C dX6_layRoute_78 rfl 2 rfl ?_
                  refine KIast (S := wI S (row1 f (q 88) (shf (f (q 88)) a (sl (sI S (q 81)) m p).length))) C 9 (hT.at0 88 20) (hT.ln0 88 9) ⟨by omega, by omega⟩ (by omega) ⟨by omega, by omega⟩ dX6_layRoute_79 ?_
                  refine KSto (S2 := wI S (row1 f (q 88) (insAt (f (q 88)) (insPosN (fun j => decide (sI S (q 81) (p : Int) < sI S (q 81) (f (q 88) (j : Int)))) (sl (sI S (q 81)) m p).length) (sl (sI S (q 81)) m p).length (p : Int)))) (by rw [e9]; exact congrArg (wI S) (up2_row1 _ _ _ _ _)) ?_
                  refine KAload_n C dX6_layRoute_80 rfl 0 rfl ?_
                  refine KDup C dX6_layRoute_81 rfl ?_
                  refine KGetI (S := wI S (row1 f (q 88) (insAt (f (q 88)) (insPosN (fun j => decide (sI S (q 81) (p : Int) < sI S (q 81) (f (q 88) (j : Int)))) (sl (sI S (q 81)) m p).length) (sl (sI S (q 81)) m p).length (p : Int)))) C ul_X6 rfl (by decide) 16 16 rfl (by decide) rfl u_fl_RX6_76 (hT.at0 80 7) (v := ((sl (sI S (q 81)) m p).length : Int)) ((row1_ne _ _ _ (hT.ne 80 88)).trans hG.2.1) dX6_layRoute_82 (fun _ h => h) ?_
                  have rb8 := hR.b (q 80) 16 (v := ((sl (sI S (q 81)) m p).length : Int)) ((row1_ne _ _ _ (hT.ne 80 88)).trans hG.2.1)
                  refine KIconst C dX6_layRoute_85 ?_
                  refine KIadd C dX6_layRoute_86 ?_
                  refine KPutI (S := wI S (row1 f (q 88) (insAt (f (q 88)) (insPosN (fun j => decide (sI S (q 81) (p : Int) < sI S (q 81) (f (q 88) (j : Int)))) (sl (sI S (q 81)) m p).length) (sl (sI S (q 81)) m p).length (p : Int)))) (ty := .int) (v := ((sl (sI S (q 81)) m p).length : Int) + 1) C ul_X6 rfl (by decide) 16 16 rfl (by decide) rfl u_fl_RX6_76 tyX6 tyX6_ok nmX6 (hT.at0 80 7) ⟨by omega, by omega⟩ (by decide +kernel) rfl rfl rfl dX6_layRoute_87 (fun _ h => h) ?_
                  refine KIinc (v := ((p + 1 : Nat) : Int)) (lv' := [(2, .int (iI ((p + 1 : Nat) : Int))), (0, .ref (q 80)), (1, .int (iI (m : Int))), (3, .int (iI (a : Int)))]) C dX6_layRoute_90 2 rfl (by omega) (by decide) rfl ?_
                  refine KGoto (tgt := 7) C dX6_layRoute_93 (by decide) ?_
                  refine KLv (lv' := [(0, .ref (q 80)), (1, .int (iI (m : Int))), (2, .int (iI ((p + 1 : Nat) : Int)))]) [1, 2, 0] rfl ?_
                  exact ih7 (p + 1) (up2 (row1 f (q 88) (insAt (f (q 88)) (insPosN (fun j => decide (sI S (q 81) (p : Int) < sI S (q 81) (f (q 88) (j : Int)))) (sl (sI S (q 81)) m p).length) (sl (sI S (q 81)) m p).length (p : Int))) (q 80) 16 (((sl (sI S (q 81)) m p).length : Int) + 1)) (by omega) (by omega) (by first | exact hG.skip (by assumption) | exact hG.put hT (by assumption))
                · refine KAload_n C dX6_layRoute_53 rfl 0 rfl ?_
                  refine KGetR (S := wI S (row1 f (q 88) (shf (f (q 88)) a (sl (sI S (q 81)) m p).length))) C ul_X6 rfl (by decide) 17 17 rfl (by decide) rfl u_fl_RX6_35 (hT.at0 80 7) (b := q 88) (hT.ptr 80 17 88) dX6_layRoute_54 (fun _ h => h) ?_
                  refine KIload_n C dX6_layRoute_57 rfl 3 rfl ?_
                  refine KAload_n C dX6_layRoute_58 rfl 0 rfl ?_
                  refine KGetR (S := wI S (row1 f (q 88) (shf (f (q 88)) a (sl (sI S (q 81)) m p).length))) C ul_X6 rfl (by decide) 17 17 rfl (by decide) rfl u_fl_RX6_35 (hT.at0 80 7) (b := q 88) (hT.ptr 80 17 88) dX6_layRoute_59 (fun _ h => h) ?_
                  refine KIload_n C dX6_layRoute_62 rfl 3 rfl ?_
                  refine KIconst C dX6_layRoute_63 ?_
                  refine KIsub C dX6_layRoute_64 ?_
                  refine KTop (congrArg iI (show (a : Int) - 1 = ((a - 1 : Nat) : Int) from (by omega))) ?_
                  refine KIald (S := wI S (row1 f (q 88) (shf (f (q 88)) a (sl (sI S (q 81)) m p).length)))  (v := f (q 88) ((a - 1 : Nat) : Int)) C 9 (hT.at0 88 20) (hT.ln0 88 9) ⟨by omega, by omega⟩ (by omega) ((row1_same _ _ _ _).trans (shf_lo _ (by omega))) dX6_layRoute_65 ?_
                  have rb9 := hR.b (q 88) ((a - 1 : Nat) : Int) (v := f (q 88) ((a - 1 : Nat) : Int)) ((row1_same _ _ _ _).trans (shf_lo _ (by omega)))
                  refine KIast (S := wI S (row1 f (q 88) (shf (f (q 88)) a (sl (sI S (q 81)) m p).length))) C 9 (hT.at0 88 20) (hT.ln0 88 9) ⟨by omega, by omega⟩ (by omega) ⟨by omega, by omega⟩ dX6_layRoute_66 ?_
                  refine KSto (S2 := wI S (row1 f (q 88) (shf (f (q 88)) (a - 1) (sl (sI S (q 81)) m p).length))) (congrArg (wI S) ((up2_row1 _ _ _ _ _).trans (congrArg _ (shf_step' _ (by omega) ha)))) ?_
                  refine KIinc (v := ((a - 1 : Nat) : Int)) (lv' := [(3, .int (iI ((a - 1 : Nat) : Int))), (0, .ref (q 80)), (1, .int (iI (m : Int))), (2, .int (iI (p : Int)))]) C dX6_layRoute_67 3 rfl (by omega) (by decide) rfl ?_
                  refine KGoto (tgt := 27) C dX6_layRoute_70 (by decide) ?_
                  refine KLv (lv' := [(0, .ref (q 80)), (1, .int (iI (m : Int))), (2, .int (iI (p : Int))), (3, .int (iI ((a - 1 : Nat) : Int)))]) [1, 2, 3, 0] rfl ?_
                  exact ih27 (a - 1) (by omega) (by omega) (hpos.trans (insPosN_t' (by omega) (decide_eq_true (by omega))))
          exact loop27 _ ((sl (sI S (q 81)) m p).length) (Nat.lt_succ_self _) (by omega) rfl
  exact loop7 _ 0 (up2 (sI S) (q 80) 16 0) (Nat.lt_succ_self _) (by omega) LayA.init
def P_X6_length (S : Sto) (q : Nat → Nat) (m : Nat) : Option Value → Sto → Prop := fun v u => v = some (.int (iI (tour (sI S (q 80) 2) (sI S (q 80) 3) (sI S (q 81)) m))) ∧ ∃ f, u = wI S f ∧ KeptM S q f ∧ f (q 80) 16 = ((slm S q m).length : Int)
set_option maxRecDepth 100000 in
set_option maxHeartbeats 4000000 in
theorem ct_X6_length (l : Launch) (g : GG) (S : Sto) (q : Nat → Nat) (m : Nat) (hT : Top S q) (hCm : CfM S q) (hmm : okM (sI S (q 80) 2) (sI S (q 81)) m) : MetS l g yX6_length cX6_length 2 (some FieldType.int) 5 0 0 [.ref (q 80), .int (iI (m : Int))] S (P_X6_length S q m) := by
  refine MetS.of (own := RX6) (lv := [(0, .ref (q 80)), (1, .int (iI (m : Int)))]) (by decide) rfl (Nat.le_of_ble_eq_true rfl) rfl ?_
  intro pX eX sX mX argsX belowX methX cX C hin
  refine KRg (fun hR => ?_)
  obtain ⟨hA1, hA2, hN1, hN2, hG1, hG2⟩ := id hCm
  obtain ⟨hm1, hm2, hm3⟩ := id hmm
  have hlen : (slm S q m).length ≤ 9 := by rw [sl_len]; exact hm2
  have hdo := okM_okDm hCm hmm
  have h512 : 2 ^ (slm S q m).length ≤ 2 ^ 9 := Nat.pow_le_pow_right (by omega) hlen
  have hp1 := Nat.two_pow_pos (slm S q m).length
  refine KAload_n C dX6_length_0 rfl 0 rfl ?_
  refine KIload_n C dX6_length_1 rfl 1 rfl ?_
  refine KCallV (As := [.int (iI (m : Int))]) (b := q 80) (st := []) C (ct_X6_layRoute l g S q m hT hCm hmm) u_ml_RX6_86 u_im_yX6_layRoute u_se_yX6_layRoute u_in_RX6 u_co_yX6_layRoute hd_yX6_layRoute (hT.at0 80 7) (by decide) rfl rfl ⟨Nat.le_of_ble_eq_true rfl, Nat.le_of_ble_eq_true rfl⟩ ⟨Nat.le_of_ble_eq_true rfl, Nat.le_of_ble_eq_true rfl⟩ (Nat.le_of_ble_eq_true rfl) dX6_length_2 rfl (fun v2 u2 hp2 => ?_)
  obtain ⟨rfl, f2, rfl, hK2, hL2, hOn2⟩ := hp2
  refine KSt (st2 := []) rfl ?_
  refine KRg (fun hR => ?_)
  obtain ⟨k1, k2⟩ := mEnv (f := f2) m (funext fun k => hK2.at hT 81 k) (hK2.at0 hT 2) (hK2.at0 hT 3)
  have hc2 : f2 (q 80) 16 = ((slm S q m).length : Int) := by have h9 := hL2.1; rw [k1] at h9; exact h9
  refine KAload_n C dX6_length_5 rfl 0 rfl ?_
  refine KGetR (S := wI S f2) C ul_X6 rfl (by decide) 18 18 rfl (by decide) rfl u_fl_RX6_38 (hT.at0 80 7) (b := q 89) (hT.ptr 80 18 89) dX6_length_6 (fun _ h => h) ?_
  refine KBipush C dX6_length_9 (by decide) ?_
  refine KIconst C dX6_length_11 ?_
  refine KAload_n C dX6_length_12 rfl 0 rfl ?_
  refine KGetI (S := wI S f2) C ul_X6 rfl (by decide) 16 16 rfl (by decide) rfl u_fl_RX6_76 (hT.at0 80 7) (v := ((slm S q m).length : Int)) hc2 dX6_length_13 (fun _ h => h) ?_
  have rb1 := hR.b (q 80) 16 (v := ((slm S q m).length : Int)) hc2
  refine KIshl (v := iI ((2 ^ (slm S q m).length : Nat) : Int)) C dX6_length_16 (ib_shl (by omega)) ?_
  refine KIconst C dX6_length_17 ?_
  refine KIsub C dX6_length_18 ?_
  refine KTop (congrArg iI (show ((2 ^ (slm S q m).length : Nat) : Int) - 1 = ((2 ^ (slm S q m).length - 1 : Nat) : Int) from (by omega))) ?_
  refine KImul C dX6_length_19 ?_
  refine KBipush C dX6_length_20 (by decide) ?_
  refine KIadd C dX6_length_22 ?_
  refine KTop (congrArg iI (show (10 * ((2 ^ (slm S q m).length - 1 : Nat) : Int)) + 9 = ((10 * (2 ^ (slm S q m).length - 1) + 9 : Nat) : Int) from (by omega))) ?_
  refine KIald (S := wI S f2)  (v := tour (sI S (q 80) 2) (sI S (q 80) 3) (sI S (q 81)) m) C 5120 (hT.at0 89 20) (hT.ln0 89 5120) ⟨by omega, by omega⟩ (by omega) (hOn2 _ 9 (by omega) (Or.inr rfl)) dX6_length_23 ?_
  refine KIret C rfl rfl (by
    exact ⟨rfl, f2, rfl, hK2, hc2⟩) (by decide) (by decide) dX6_length_24
