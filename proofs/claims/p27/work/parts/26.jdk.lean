def P_Jxa1e45_init_da8c8 (S : Sto) (L : Nat) : Option Value → Sto → Prop := fun v u => v = none ∧ S = u
set_option maxRecDepth 100000 in
set_option maxHeartbeats 4000000 in
theorem ct_Jxa1e45_init_da8c8 (l : Launch) (g : GG) (S : Sto) (L : Nat) : MetS l g yJxa1e45_init_da8c8 cJxa1e45_init_da8c8 1 (none) 1 0 0 [.ref L] S (P_Jxa1e45_init_da8c8 S L) := by
  refine MetS.of (own := RJxa1e45) (lv := [(0, .ref L)]) (by decide) rfl (Nat.le_of_ble_eq_true rfl) rfl ?_
  intro pX eX sX mX argsX belowX methX cX C hin
  refine KRg (fun hR => ?_)
  refine KAload_n C dJxa1e45_init_da8c8_0 rfl 0 rfl ?_
  refine KObjInit C u_ml_RJxa1e45_1 dJxa1e45_init_da8c8_1 ⟨Nat.le_of_ble_eq_true rfl, Nat.le_of_ble_eq_true rfl⟩ ?_
  refine KVret C rfl (by
    exact ⟨rfl, rfl⟩) (by decide) (by decide) dJxa1e45_init_da8c8_4
def P_Jxc12de_init_da8c8 (S : Sto) (L : Nat) : Option Value → Sto → Prop := fun v u => v = none ∧ u = uI S L 0 0
set_option maxRecDepth 100000 in
set_option maxHeartbeats 4000000 in
theorem ct_Jxc12de_init_da8c8 (l : Launch) (g : GG) (S : Sto) (L : Nat) (hL : At0 S L 0) : MetS l g yJxc12de_init_da8c8 cJxc12de_init_da8c8 1 (none) 2 0 0 [.ref L] S (P_Jxc12de_init_da8c8 S L) := by
  refine MetS.of (own := RJxc12de) (lv := [(0, .ref L)]) (by decide) rfl (Nat.le_of_ble_eq_true rfl) rfl ?_
  intro pX eX sX mX argsX belowX methX cX C hin
  refine KRg (fun hR => ?_)
  refine KAload_n C dJxc12de_init_da8c8_0 rfl 0 rfl ?_
  refine KCallI (As := []) (b := L) (st := []) C (ct_Jxa1e45_init_da8c8 l g S L) u_ml_RJxc12de_1 u_im_yJxa1e45_init_da8c8 u_in_RJxa1e45 u_co_yJxa1e45_init_da8c8 rfl hd_yJxa1e45_init_da8c8.2 ⟨Nat.le_of_ble_eq_true rfl, Nat.le_of_ble_eq_true rfl⟩ ⟨Nat.le_of_ble_eq_true rfl, Nat.le_of_ble_eq_true rfl⟩ (Nat.le_of_ble_eq_true rfl) dJxc12de_init_da8c8_1 rfl (fun v1 u1 hp1 => ?_)
  obtain ⟨rfl, rfl⟩ := hp1
  refine KSt (st2 := []) rfl ?_
  refine KAload_n C dJxc12de_init_da8c8_4 rfl 0 rfl ?_
  refine KIconst C dJxc12de_init_da8c8_5 ?_
  refine KPutI (ty := .int) (v := 0) C ul_Jx4a65c rfl (by decide) 0 0 rfl (by decide) rfl u_fl_RJxc12de_7 tyJx4a65c tyJx4a65c_ok nmJx4a65c hL ⟨by omega, by omega⟩ (by decide +kernel) rfl rfl rfl dJxc12de_init_da8c8_6 (fun _ h => h) ?_
  refine KVret C rfl (by
    exact ⟨rfl, rfl⟩) (by decide) (by decide) dJxc12de_init_da8c8_9
def P_Jx4a65c_init_da8c8 (S : Sto) (L : Nat) (tt : Nat) : Option Value → Sto → Prop := fun v u => v = none ∧ u = uP (uI S L 0 0) L 1 (some tt)
set_option maxRecDepth 100000 in
set_option maxHeartbeats 4000000 in
theorem ct_Jx4a65c_init_da8c8 (l : Launch) (g : GG) (S : Sto) (L : Nat) (hL : At0 S L 0) (tt : Nat) (htt : tt = gT g) : MetS l g yJx4a65c_init_da8c8 cJx4a65c_init_da8c8 1 (none) 3 0 0 [.ref L] S (P_Jx4a65c_init_da8c8 S L tt) := by
  refine MetS.of (own := RJx4a65c) (lv := [(0, .ref L)]) (by decide) rfl (Nat.le_of_ble_eq_true rfl) rfl ?_
  intro pX eX sX mX argsX belowX methX cX C hin
  refine KRg (fun hR => ?_)
  subst htt
  refine KAload_n C dJx4a65c_init_da8c8_0 rfl 0 rfl ?_
  refine KCallI (As := []) (b := L) (st := []) C (ct_Jxc12de_init_da8c8 l g S L hL) u_ml_RJx4a65c_1 u_im_yJxc12de_init_da8c8 u_in_RJxc12de u_co_yJxc12de_init_da8c8 rfl hd_yJxc12de_init_da8c8.2 ⟨Nat.le_of_ble_eq_true rfl, Nat.le_of_ble_eq_true rfl⟩ ⟨Nat.le_of_ble_eq_true rfl, Nat.le_of_ble_eq_true rfl⟩ (Nat.le_of_ble_eq_true rfl) dJx4a65c_init_da8c8_1 rfl (fun v1 u1 hp1 => ?_)
  obtain ⟨rfl, rfl⟩ := hp1
  refine KSt (st2 := []) rfl ?_
  refine KRg (fun hR => ?_)
  refine KAload_n C dJx4a65c_init_da8c8_4 rfl 0 rfl ?_
  refine KGetsE C u_fl_RJx4a65c_39 dJx4a65c_init_da8c8_5 ?_
  refine KPutR (S := uI S L 0 0) (ty := (.array (.object "java/lang/Object"))) C ul_Jx4a65c rfl (by decide) 1 1 rfl (by decide) rfl u_fl_RJx4a65c_9 tyJx4a65c tyJx4a65c_ok nmJx4a65c hL (by decide +kernel) rfl rfl rfl dJx4a65c_init_da8c8_8 (fun _ h => h) ?_
  refine KVret C rfl (by
    exact ⟨rfl, rfl⟩) (by decide) (by decide) dJx4a65c_init_da8c8_11
def P_Jx4a65c_size_8abf5 (S : Sto) (L : Nat) (E : Nat) (cap : Nat) (n : Nat) : Option Value → Sto → Prop := fun v u => v = some (.int (iI (n : Int))) ∧ S = u
set_option maxRecDepth 100000 in
set_option maxHeartbeats 4000000 in
theorem ct_Jx4a65c_size_8abf5 (l : Launch) (g : GG) (S : Sto) (L : Nat) (E : Nat) (cap : Nat) (n : Nat) (hLs : Lst S (gT g) L E cap n) : MetS l g yJx4a65c_size_8abf5 cJx4a65c_size_8abf5 1 (some FieldType.int) 1 0 0 [.ref L] S (P_Jx4a65c_size_8abf5 S L E cap n) := by
  refine MetS.of (own := RJx4a65c) (lv := [(0, .ref L)]) (by decide) rfl (Nat.le_of_ble_eq_true rfl) rfl ?_
  intro pX eX sX mX argsX belowX methX cX C hin
  refine KRg (fun hR => ?_)
  refine KAload_n C dJx4a65c_size_8abf5_0 rfl 0 rfl ?_
  refine KGetI C ul_Jx4a65c rfl (by decide) 2 2 rfl (by decide) rfl u_fl_RJx4a65c_48 hLs.1 (v := (n : Int)) hLs.2.2.1 dJx4a65c_size_8abf5_1 (fun _ h => h) ?_
  have rb1 := hR.b L 2 (v := (n : Int)) hLs.2.2.1
  refine KIret C rfl rfl (by
    exact ⟨rfl, rfl⟩) (by decide) (by decide) dJx4a65c_size_8abf5_4
def P_Jx4a65c_isEmpty_aae02 (S : Sto) (L : Nat) (E : Nat) (cap : Nat) (n : Nat) : Option Value → Sto → Prop := fun v u => ((n = 0) ∧ v = some (.int (iI 1)) ∨ ¬(n = 0) ∧ v = some (.int (iI 0))) ∧ S = u
set_option maxRecDepth 100000 in
set_option maxHeartbeats 4000000 in
theorem ct_Jx4a65c_isEmpty_aae02 (l : Launch) (g : GG) (S : Sto) (L : Nat) (E : Nat) (cap : Nat) (n : Nat) (hLs : Lst S (gT g) L E cap n) : MetS l g yJx4a65c_isEmpty_aae02 cJx4a65c_isEmpty_aae02 1 (some FieldType.boolean) 1 0 0 [.ref L] S (P_Jx4a65c_isEmpty_aae02 S L E cap n) := by
  refine MetS.of (own := RJx4a65c) (lv := [(0, .ref L)]) (by decide) rfl (Nat.le_of_ble_eq_true rfl) rfl ?_
  intro pX eX sX mX argsX belowX methX cX C hin
  refine KRg (fun hR => ?_)
  refine KAload_n C dJx4a65c_isEmpty_aae02_0 rfl 0 rfl ?_
  refine KGetI C ul_Jx4a65c rfl (by decide) 2 2 rfl (by decide) rfl u_fl_RJx4a65c_48 hLs.1 (v := (n : Int)) hLs.2.2.1 dJx4a65c_isEmpty_aae02_1 (fun _ h => h) ?_
  have rb1 := hR.b L 2 (v := (n : Int)) hLs.2.2.1
  refine KIf_ne (tgt := 11) C dJx4a65c_isEmpty_aae02_4 (by decide) ⟨by omega, by omega⟩ (fun c4 => ?_) (fun c4 => ?_)
  · refine KIconst C dJx4a65c_isEmpty_aae02_11 ?_
    refine KIret C rfl rfl (by
      first | exact ⟨Or.inl ⟨by omega, rfl⟩, rfl⟩ | exact ⟨Or.inr ⟨by omega, rfl⟩, rfl⟩) (by decide) (by decide) dJx4a65c_isEmpty_aae02_12
  · refine KIconst C dJx4a65c_isEmpty_aae02_7 ?_
    refine KGoto (tgt := 12) C dJx4a65c_isEmpty_aae02_8 (by decide) ?_
    refine KIret C rfl rfl (by
      first | exact ⟨Or.inl ⟨by omega, rfl⟩, rfl⟩ | exact ⟨Or.inr ⟨by omega, rfl⟩, rfl⟩) (by decide) (by decide) dJx4a65c_isEmpty_aae02_12
def P_Jx4a65c_elementData_915e3 (S : Sto) (L : Nat) (E : Nat) (cap : Nat) (n : Nat) (i : Nat) (b : Nat) : Option Value → Sto → Prop := fun v u => v = some (.ref b) ∧ S = u
set_option maxRecDepth 100000 in
set_option maxHeartbeats 4000000 in
theorem ct_Jx4a65c_elementData_915e3 (l : Launch) (g : GG) (S : Sto) (L : Nat) (E : Nat) (cap : Nat) (n : Nat) (hLs : Lst S (gT g) L E cap n) (i : Nat) (b : Nat) (hi : i < n) (hb : sP S E (i : Int) = some b) : MetS l g yJx4a65c_elementData_915e3 cJx4a65c_elementData_915e3 2 (some (FieldType.object "java/lang/Object")) 1 0 0 [.ref L, .int (iI (i : Int))] S (P_Jx4a65c_elementData_915e3 S L E cap n i b) := by
  refine MetS.of (own := RJx4a65c) (lv := [(0, .ref L), (1, .int (iI (i : Int)))]) (by decide) rfl (Nat.le_of_ble_eq_true rfl) rfl ?_
  intro pX eX sX mX argsX belowX methX cX C hin
  refine KRg (fun hR => ?_)
  have hcn := hLs.2.2.2.1
  have hc60 := hLs.2.2.2.2.1
  have hA := hLs.arr (by omega)
  refine KAload_n C dJx4a65c_elementData_915e3_0 rfl 0 rfl ?_
  refine KGetR C ul_Jx4a65c rfl (by decide) 1 1 rfl (by decide) rfl u_fl_RJx4a65c_9 hLs.1 (b := E) hLs.2.1 dJx4a65c_elementData_915e3_1 (fun _ h => h) ?_
  refine KIload_n C dJx4a65c_elementData_915e3_4 rfl 1 rfl ?_
  refine KAaldR (b := b) C cap hA.1 hA.2 ⟨by omega, by omega⟩ (by omega) hb dJx4a65c_elementData_915e3_5 ?_
  refine KAret (v := some b) C rfl (by first | exact Or.inl ⟨_, rfl⟩ | exact Or.inr ⟨_, rfl⟩) (by
    exact ⟨rfl, rfl⟩) (by decide) (by decide) dJx4a65c_elementData_915e3_6
def P_J3_checkIndex_8e157 (S : Sto) (x : Int) (y : Int) : Option Value → Sto → Prop := fun v u => v = some (.int (iI x)) ∧ S = u
set_option maxRecDepth 100000 in
set_option maxHeartbeats 4000000 in
theorem ct_J3_checkIndex_8e157 (l : Launch) (g : GG) (S : Sto) (x : Int) (y : Int) (h1 : 0 ≤ x ∧ x < y ∧ y < 100000) : MetS l g yJ3_checkIndex_8e157 cJ3_checkIndex_8e157 3 (some FieldType.int) 1 0 0 [.int (iI x), .int (iI y), .null] S (P_J3_checkIndex_8e157 S x y) := by
  refine MetS.of (own := RJ3) (lv := [(0, .int (iI x)), (1, .int (iI y)), (2, .null)]) (by decide) rfl (Nat.le_of_ble_eq_true rfl) rfl ?_
  intro pX eX sX mX argsX belowX methX cX C hin
  refine KRg (fun hR => ?_)
  refine KIload_n C dJ3_checkIndex_8e157_0 rfl 0 rfl ?_
  refine KIf_lt (tgt := 9) C dJ3_checkIndex_8e157_1 (by decide) ⟨by omega, by omega⟩ (fun c1 => absurd c1 (by omega)) (fun c1 => ?_)
  refine KIload_n C dJ3_checkIndex_8e157_4 rfl 0 rfl ?_
  refine KIload_n C dJ3_checkIndex_8e157_5 rfl 1 rfl ?_
  refine KIcmp_lt (tgt := 16) C dJ3_checkIndex_8e157_6 (by decide) ⟨by omega, by omega⟩ ⟨by omega, by omega⟩ (fun c6 => ?_) (fun c6 => absurd c6 (by omega))
  refine KIload_n C dJ3_checkIndex_8e157_16 rfl 0 rfl ?_
  refine KIret C rfl rfl (by
    exact ⟨rfl, rfl⟩) (by decide) (by decide) dJ3_checkIndex_8e157_17
def P_J15_checkIndex_7cf53 (S : Sto) (x : Int) (y : Int) : Option Value → Sto → Prop := fun v u => v = some (.int (iI x)) ∧ S = u
set_option maxRecDepth 100000 in
set_option maxHeartbeats 4000000 in
theorem ct_J15_checkIndex_7cf53 (l : Launch) (g : GG) (S : Sto) (x : Int) (y : Int) (h1 : 0 ≤ x ∧ x < y ∧ y < 100000) : MetS l g yJ15_checkIndex_7cf53 cJ15_checkIndex_7cf53 2 (some FieldType.int) 2 0 0 [.int (iI x), .int (iI y)] S (P_J15_checkIndex_7cf53 S x y) := by
  refine MetS.of (own := RJ15) (lv := [(0, .int (iI x)), (1, .int (iI y))]) (by decide) rfl (Nat.le_of_ble_eq_true rfl) rfl ?_
  intro pX eX sX mX argsX belowX methX cX C hin
  refine KRg (fun hR => ?_)
  refine KIload_n C dJ15_checkIndex_7cf53_0 rfl 0 rfl ?_
  refine KIload_n C dJ15_checkIndex_7cf53_1 rfl 1 rfl ?_
  refine KAnull C dJ15_checkIndex_7cf53_2 ?_
  refine KCallS2 (As := [.int (iI x), .int (iI y), .null]) (st := []) C (ct_J3_checkIndex_8e157 l g S x y (by omega)) u_ml_RJ15_105 u_st_yJ3_checkIndex_8e157 u_in_RJ3 u_co_yJ3_checkIndex_8e157 hd_yJ3_checkIndex_8e157.2 ⟨Nat.le_of_ble_eq_true rfl, Nat.le_of_ble_eq_true rfl⟩ ⟨Nat.le_of_ble_eq_true rfl, Nat.le_of_ble_eq_true rfl⟩ (Nat.le_of_ble_eq_true rfl) dJ15_checkIndex_7cf53_3 rfl (fun v3 u3 hp3 => ?_)
  obtain ⟨rfl, rfl⟩ := hp3
  refine KSt (st2 := [.int (iI x)]) rfl ?_
  refine KIret C rfl rfl (by
    exact ⟨rfl, rfl⟩) (by decide) (by decide) dJ15_checkIndex_7cf53_6
def P_Jx4a65c_get_915e3 (S : Sto) (L : Nat) (E : Nat) (cap : Nat) (n : Nat) (i : Nat) (b : Nat) : Option Value → Sto → Prop := fun v u => v = some (.ref b) ∧ S = u
set_option maxRecDepth 100000 in
set_option maxHeartbeats 4000000 in
theorem ct_Jx4a65c_get_915e3 (l : Launch) (g : GG) (S : Sto) (L : Nat) (E : Nat) (cap : Nat) (n : Nat) (hLs : Lst S (gT g) L E cap n) (i : Nat) (b : Nat) (hi : i < n) (hb : sP S E (i : Int) = some b) : MetS l g yJx4a65c_get_915e3 cJx4a65c_get_915e3 2 (some (FieldType.object "java/lang/Object")) 3 0 0 [.ref L, .int (iI (i : Int))] S (P_Jx4a65c_get_915e3 S L E cap n i b) := by
  refine MetS.of (own := RJx4a65c) (lv := [(0, .ref L), (1, .int (iI (i : Int)))]) (by decide) rfl (Nat.le_of_ble_eq_true rfl) rfl ?_
  intro pX eX sX mX argsX belowX methX cX C hin
  refine KRg (fun hR => ?_)
  have hcn := hLs.2.2.2.1
  have hc60 := hLs.2.2.2.2.1
  refine KIload_n C dJx4a65c_get_915e3_0 rfl 1 rfl ?_
  refine KAload_n C dJx4a65c_get_915e3_1 rfl 0 rfl ?_
  refine KGetI C ul_Jx4a65c rfl (by decide) 2 2 rfl (by decide) rfl u_fl_RJx4a65c_48 hLs.1 (v := (n : Int)) hLs.2.2.1 dJx4a65c_get_915e3_2 (fun _ h => h) ?_
  have rb1 := hR.b L 2 (v := (n : Int)) hLs.2.2.1
  refine KCallS2 (As := [.int (iI (i : Int)), .int (iI (n : Int))]) (st := []) C (ct_J15_checkIndex_7cf53 l g S (i : Int) (n : Int) (by omega)) u_ml_RJx4a65c_118 u_st_yJ15_checkIndex_7cf53 u_in_RJ15 u_co_yJ15_checkIndex_7cf53 hd_yJ15_checkIndex_7cf53.2 ⟨Nat.le_of_ble_eq_true rfl, Nat.le_of_ble_eq_true rfl⟩ ⟨Nat.le_of_ble_eq_true rfl, Nat.le_of_ble_eq_true rfl⟩ (Nat.le_of_ble_eq_true rfl) dJx4a65c_get_915e3_5 rfl (fun v5 u5 hp5 => ?_)
  obtain ⟨rfl, rfl⟩ := hp5
  refine KSt (st2 := [.int (iI (i : Int))]) rfl ?_
  refine KPop C dJx4a65c_get_915e3_8 rfl ?_
  refine KAload_n C dJx4a65c_get_915e3_9 rfl 0 rfl ?_
  refine KIload_n C dJx4a65c_get_915e3_10 rfl 1 rfl ?_
  refine KCallV (As := [.int (iI (i : Int))]) (b := L) (st := []) C (ct_Jx4a65c_elementData_915e3 l g S L E cap n hLs i b (by omega) hb) u_ml_RJx4a65c_123 u_im_yJx4a65c_elementData_915e3 u_se_yJx4a65c_elementData_915e3 u_in_RJx4a65c u_co_yJx4a65c_elementData_915e3 hd_yJx4a65c_elementData_915e3 hLs.1 (by decide) rfl rfl ⟨Nat.le_of_ble_eq_true rfl, Nat.le_of_ble_eq_true rfl⟩ ⟨Nat.le_of_ble_eq_true rfl, Nat.le_of_ble_eq_true rfl⟩ (Nat.le_of_ble_eq_true rfl) dJx4a65c_get_915e3_11 rfl (fun v11 u11 hp11 => ?_)
  obtain ⟨rfl, rfl⟩ := hp11
  refine KSt (st2 := [.ref b]) rfl ?_
  refine KAret (v := some b) C rfl (by first | exact Or.inl ⟨_, rfl⟩ | exact Or.inr ⟨_, rfl⟩) (by
    exact ⟨rfl, rfl⟩) (by decide) (by decide) dJx4a65c_get_915e3_14
def P_J8_newLength_cabcc (S : Sto) (x : Int) (y : Int) (z : Int) : Option Value → Sto → Prop := fun v u => v = some (.int (iI (x + maxI y z))) ∧ S = u
set_option maxRecDepth 100000 in
set_option maxHeartbeats 4000000 in
theorem ct_J8_newLength_cabcc (l : Launch) (g : GG) (S : Sto) (x : Int) (y : Int) (z : Int) (h1 : 0 < x ∧ x < 100000 ∧ 0 ≤ y ∧ y < 100000 ∧ 0 ≤ z ∧ z < 100000) : MetS l g yJ8_newLength_cabcc cJ8_newLength_cabcc 4 (some FieldType.int) 1 0 0 [.int (iI x), .int (iI y), .int (iI z)] S (P_J8_newLength_cabcc S x y z) := by
  refine MetS.of (own := RJ8) (lv := [(0, .int (iI x)), (1, .int (iI y)), (2, .int (iI z))]) (by decide) rfl (Nat.le_of_ble_eq_true rfl) rfl ?_
  intro pX eX sX mX argsX belowX methX cX C hin
  refine KRg (fun hR => ?_)
  refine KIload_n C dJ8_newLength_cabcc_0 rfl 0 rfl ?_
  refine KIload_n C dJ8_newLength_cabcc_1 rfl 1 rfl ?_
  refine KIload_n C dJ8_newLength_cabcc_2 rfl 2 rfl ?_
  refine KMmax (z := maxI y z) C ⟨by omega, by omega⟩ ⟨by omega, by omega⟩ rfl u_ml_RJ8_194 u_st_yJ9_max_7cf53 u_in_RJ9 u_co_yJ9_max_7cf53 ⟨Nat.le_of_ble_eq_true rfl, Nat.le_of_ble_eq_true rfl⟩ ⟨Nat.le_of_ble_eq_true rfl, Nat.le_of_ble_eq_true rfl⟩ dJ8_newLength_cabcc_3 ?_
  have mb1 := maxI_b y z
  refine KIadd C dJ8_newLength_cabcc_6 ?_
  refine KIstore_n (lv' := [(3, .int (iI (x + (maxI y z)))), (0, .int (iI x)), (1, .int (iI y)), (2, .int (iI z))]) C dJ8_newLength_cabcc_7 rfl (by decide) rfl ?_
  refine KIconst C dJ8_newLength_cabcc_8 ?_
  refine KIload_n C dJ8_newLength_cabcc_9 rfl 0 rfl ?_
  refine KIcmp_ge (tgt := 21) C dJ8_newLength_cabcc_10 (by decide) ⟨by omega, by omega⟩ ⟨by omega, by omega⟩ (fun c10 => absurd c10 (by omega)) (fun c10 => ?_)
  refine KIload_n C dJ8_newLength_cabcc_13 rfl 0 rfl ?_
  refine KLdc (n := 2147483639) C u_ct_RJ8_200 (by decide) dJ8_newLength_cabcc_14 ?_
  refine KIcmp_gt (tgt := 21) C dJ8_newLength_cabcc_16 (by decide) ⟨by omega, by omega⟩ ⟨by omega, by omega⟩ (fun c16 => absurd c16 (by omega)) (fun c16 => ?_)
  refine KIload_n C dJ8_newLength_cabcc_19 rfl 0 rfl ?_
  refine KIret C rfl rfl (by
    exact ⟨rfl, rfl⟩) (by decide) (by decide) dJ8_newLength_cabcc_20
def P_J7_copyOf_6403c (S : Sto) (E : Nat) (k : Nat) (cap : Nat) (cb : Nat) (rr : vw_C) : Option Value → Sto → Prop := fun v u => ∃ a, a ∉ sL S ∧ v = some (.ref a) ∧ u = cpyS S E a k cap
set_option maxRecDepth 100000 in
set_option maxHeartbeats 4000000 in
theorem ct_J7_copyOf_6403c (l : Launch) (g : GG) (S : Sto) (E : Nat) (k : Nat) (cap : Nat) (cb : Nat) (rr : vw_C) (hA : At0 S E 21 ∧ sN S E = cap) (hk : cap ≤ k ∧ k ≤ 60) (hcb : cb < 20) (hrr : vwCl[cb]? = some rr) (hca : Cond.castable rr.1 "java/lang/Object" ∈ UN) (hel : Els S E cap cb) : MetS l g yJ7_copyOf_6403c cJ7_copyOf_6403c 4 (some (FieldType.array (FieldType.object "java/lang/Object"))) 2 1 60 [.ref E, .int (iI (k : Int)), .ref (gM g)] S (P_J7_copyOf_6403c S E k cap cb rr) := by
  refine MetS.of (own := RJ7) (lv := [(0, .ref E), (1, .int (iI (k : Int))), (2, .ref (gM g))]) (by decide) rfl (Nat.le_of_ble_eq_true rfl) rfl ?_
  intro pX eX sX mX argsX belowX methX cX C hin
  refine KRg (fun hR => ?_)
  obtain ⟨hk1, hk2⟩ := hk
  refine KAload_n C dJ7_copyOf_6403c_0 rfl 2 rfl ?_
  refine KLdcM C u_cl_RJ7_110 dJ7_copyOf_6403c_1 ?_
  refine KAcmp_ne (rx := some (gM g)) (ry := some (gM g)) (tgt := 13) C dJ7_copyOf_6403c_3 (by decide) (fun c3 => absurd c3 (fun h9 => h9 rfl)) (fun c3 => ?_)
  refine KIload_n C dJ7_copyOf_6403c_6 rfl 1 rfl ?_
  refine KAnewa C k (by omega) (by omega) u_cl_RJ7_2 ⟨by show _ + 1 ≤ 1; omega, by show _ + _ ≤ 60; omega⟩ dJ7_copyOf_6403c_7 (fun a7 ha7 => ?_)
  refine KWiden (k := 1) (n := 60) (by omega) (by omega) ?_
  refine KGoto (tgt := 24) C dJ7_copyOf_6403c_10 (by decide) ?_
  refine KAstore_n (lv' := [(3, .ref a7), (0, .ref E), (1, .int (iI (k : Int))), (2, .ref (gM g))]) C dJ7_copyOf_6403c_24 rfl (by decide) rfl ?_
  have hEa : E ≠ a7 := fun e9 => ha7 (e9 ▸ hA.1.1)
  have hx7 := Ext.nw (S := S) ha7 21 k
  have hA7 : At0 (nw S a7 21 k) E 21 ∧ sN (nw S a7 21 k) E = cap := ⟨⟨(hx7 E hA.1.1).1, (hx7 E hA.1.1).2.1.trans hA.1.2⟩, (hx7 E hA.1.1).2.2.1.trans hA.2⟩
  have hA0 := hA
  have hA := hA7
  refine KAload_n C dJ7_copyOf_6403c_25 rfl 1 rfl ?_
  refine KIconst C dJ7_copyOf_6403c_26 ?_
  refine KAload_n C dJ7_copyOf_6403c_27 rfl 0 rfl ?_
  refine KIconst C dJ7_copyOf_6403c_28 ?_
  refine KAload_n C dJ7_copyOf_6403c_29 rfl 1 rfl ?_
  refine KAlenO (S := nw S a7 21 k) C cap hA.1 hA.2 dJ7_copyOf_6403c_30 ?_
  refine KIload_n C dJ7_copyOf_6403c_31 rfl 2 rfl ?_
  refine KMmin (z := minI cap (k : Int)) C ⟨by omega, by omega⟩ ⟨by omega, by omega⟩ rfl u_ml_RJ7_304 u_st_yJ9_min_7cf53 u_in_RJ9 u_co_yJ9_min_7cf53 ⟨Nat.le_of_ble_eq_true rfl, Nat.le_of_ble_eq_true rfl⟩ ⟨Nat.le_of_ble_eq_true rfl, Nat.le_of_ble_eq_true rfl⟩ dJ7_copyOf_6403c_32 ?_
  have mb1 := minI_b cap (k : Int)
  refine KTop (congrArg iI (show minI cap (k : Int) = (cap : Int) from (by unfold minI; split <;> omega))) ?_
  refine KCopyq (S := (nw S a7 21 k)) (a0 := E) (a := a7) C cap k 0 0 cap x_ml150 hA7.1 hA7.2 (nw_at (kd := 21) (n := k)) (nw_ln (kd := 21) (n := k)) (by omega) (by omega) (by omega) (by omega) (by omega) ⟨by omega, by omega⟩ hcb hrr hca (fun i9 hi9 y9 hy9 => by rw [(hx7 E hA0.1.1).2.2.2.2.1, Nat.zero_add] at hy9; have h8 := hel i9 hi9 y9 hy9; exact ⟨(hx7 y9 h8.1).1, (hx7 y9 h8.1).2.1.trans h8.2⟩) ⟨Nat.le_of_ble_eq_true rfl, Nat.le_of_ble_eq_true rfl⟩ dJ7_copyOf_6403c_35 ?_
  refine KAload_n C dJ7_copyOf_6403c_38 rfl 0 rfl ?_
  refine KAret (v := some a7) C rfl (by first | exact Or.inl ⟨_, rfl⟩ | exact Or.inr ⟨_, rfl⟩) (by
    exact ⟨a7, ha7, rfl, rfl⟩) (by first | decide | omega) (by first | decide | omega) dJ7_copyOf_6403c_39
def P_J7_copyOf_1904c (S : Sto) (E : Nat) (k : Nat) (cap : Nat) (cb : Nat) (rr : vw_C) : Option Value → Sto → Prop := fun v u => ∃ a, a ∉ sL S ∧ v = some (.ref a) ∧ u = cpyS S E a k cap
set_option maxRecDepth 100000 in
set_option maxHeartbeats 4000000 in
theorem ct_J7_copyOf_1904c (l : Launch) (g : GG) (S : Sto) (E : Nat) (k : Nat) (cap : Nat) (cb : Nat) (rr : vw_C) (hA : At0 S E 21 ∧ sN S E = cap) (hk : cap ≤ k ∧ k ≤ 60) (hcb : cb < 20) (hrr : vwCl[cb]? = some rr) (hca : Cond.castable rr.1 "java/lang/Object" ∈ UN) (hel : Els S E cap cb) : MetS l g yJ7_copyOf_1904c cJ7_copyOf_1904c 2 (some (FieldType.array (FieldType.object "java/lang/Object"))) 3 1 60 [.ref E, .int (iI (k : Int))] S (P_J7_copyOf_1904c S E k cap cb rr) := by
  refine MetS.of (own := RJ7) (lv := [(0, .ref E), (1, .int (iI (k : Int)))]) (by decide) rfl (Nat.le_of_ble_eq_true rfl) rfl ?_
  intro pX eX sX mX argsX belowX methX cX C hin
  refine KRg (fun hR => ?_)
  refine KAload_n C dJ7_copyOf_1904c_0 rfl 0 rfl ?_
  refine KIload_n C dJ7_copyOf_1904c_1 rfl 1 rfl ?_
  refine KAload_n C dJ7_copyOf_1904c_2 rfl 0 rfl ?_
  refine KGetC C x_ml86 hA.1 ⟨Nat.le_of_ble_eq_true rfl, Nat.le_of_ble_eq_true rfl⟩ dJ7_copyOf_1904c_3 ?_
  refine KCallS (As := [.ref E, .int (iI (k : Int)), .ref (gM g)]) (st := []) C (ct_J7_copyOf_6403c l g S E k cap cb rr hA (by omega) hcb hrr hca hel) u_ml_RJ7_300 u_st_yJ7_copyOf_6403c u_in_RJ7 u_co_yJ7_copyOf_6403c hd_yJ7_copyOf_6403c ⟨Nat.le_of_ble_eq_true rfl, Nat.le_of_ble_eq_true rfl⟩ ⟨Nat.le_of_ble_eq_true rfl, Nat.le_of_ble_eq_true rfl⟩ (Nat.le_of_ble_eq_true rfl) dJ7_copyOf_1904c_6 rfl (fun v6 u6 hp6 => ?_)
  obtain ⟨a6, ha6, rfl, rfl⟩ := hp6
  refine KSt (st2 := [.ref a6]) rfl ?_
  refine KRg (fun hR => ?_)
  refine KAret (v := some a6) C rfl (by first | exact Or.inl ⟨_, rfl⟩ | exact Or.inr ⟨_, rfl⟩) (by
    exact ⟨a6, ha6, rfl, rfl⟩) (by decide) (by decide) dJ7_copyOf_1904c_9
