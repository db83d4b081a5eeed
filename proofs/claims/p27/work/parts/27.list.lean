def P_Jx4a65c_grow_92f84_a (S : Sto) (L : Nat) (E : Nat) (cap : Nat) (n : Nat) (cb : Nat) (rr : vw_C) : Option Value → Sto → Prop := fun v u => ∃ a k, a ∉ sL S ∧ v = some (.ref a) ∧ Rdy S u L E n a k
set_option maxRecDepth 100000 in
set_option maxHeartbeats 4000000 in
theorem ct_Jx4a65c_grow_92f84_a (l : Launch) (g : GG) (S : Sto) (L : Nat) (E : Nat) (cap : Nat) (n : Nat) (hLs : Lst S (gT g) L E cap n) (cb : Nat) (rr : vw_C) (hcb : cb < 20) (hrr : vwCl[cb]? = some rr) (hca : Cond.castable rr.1 "java/lang/Object" ∈ UN) (hel : Els S E n cb) (hn : n = cap ∧ 0 < cap ∧ cap ≤ 39) : MetS l g yJx4a65c_grow_92f84 cJx4a65c_grow_92f84 4 (some (FieldType.array (FieldType.object "java/lang/Object"))) 4 1 60 [.ref L, .int (iI ((n : Int) + 1))] S (P_Jx4a65c_grow_92f84_a S L E cap n cb rr) := by
  refine MetS.of (own := RJx4a65c) (lv := [(0, .ref L), (1, .int (iI ((n : Int) + 1)))]) (by decide) rfl (Nat.le_of_ble_eq_true rfl) rfl ?_
  intro pX eX sX mX argsX belowX methX cX C hin
  refine KRg (fun hR => ?_)
  have hcn := hLs.2.2.2.1
  obtain ⟨hn1, hn2, hn3⟩ := hn
  have hA := hLs.arr (by omega)
  have hc10 : 10 ≤ cap := by rcases hLs.2.2.2.2.2 with ⟨-, e9⟩ | ⟨-, -, h9⟩ <;> omega
  subst hn1
  have hL := hLs.1
  refine KAload_n C dJx4a65c_grow_92f84_0 rfl 0 rfl ?_
  refine KGetR C ul_Jx4a65c rfl (by decide) 1 1 rfl (by decide) rfl u_fl_RJx4a65c_9 hL (b := E) hLs.2.1 dJx4a65c_grow_92f84_1 (fun _ h => h) ?_
  refine KAlenO C n hA.1 hA.2 dJx4a65c_grow_92f84_4 ?_
  refine KIstore_n (lv' := [(2, .int (iI n)), (0, .ref L), (1, .int (iI ((n : Int) + 1)))]) C dJx4a65c_grow_92f84_5 rfl (by decide) rfl ?_
  refine KIload_n C dJx4a65c_grow_92f84_6 rfl 0 rfl ?_
  refine KIf_gt (tgt := 20) C dJx4a65c_grow_92f84_7 (by decide) ⟨by omega, by omega⟩ (fun c7 => ?_) (fun c7 => absurd c7 (by omega))
  refine KIload_n C dJx4a65c_grow_92f84_20 rfl 0 rfl ?_
  refine KIload_n C dJx4a65c_grow_92f84_21 rfl 2 rfl ?_
  refine KIload_n C dJx4a65c_grow_92f84_22 rfl 0 rfl ?_
  refine KIsub C dJx4a65c_grow_92f84_23 ?_
  refine KIload_n C dJx4a65c_grow_92f84_24 rfl 0 rfl ?_
  refine KIconst C dJx4a65c_grow_92f84_25 ?_
  refine KIshr (v := iI ((n / 2 : Nat) : Int)) C dJx4a65c_grow_92f84_26 (ib_shr (m := n) (p := 1) (by omega) (by omega)) ?_
  refine KCallS2 (As := [.int (iI n), .int (iI (((n : Int) + 1) - n)), .int (iI ((n / 2 : Nat) : Int))]) (st := []) C (ct_J8_newLength_cabcc l g S n (((n : Int) + 1) - n) ((n / 2 : Nat) : Int) (by omega)) u_ml_RJx4a65c_73 u_st_yJ8_newLength_cabcc u_in_RJ8 u_co_yJ8_newLength_cabcc hd_yJ8_newLength_cabcc.2 ⟨Nat.le_of_ble_eq_true rfl, Nat.le_of_ble_eq_true rfl⟩ ⟨Nat.le_of_ble_eq_true rfl, Nat.le_of_ble_eq_true rfl⟩ (Nat.le_of_ble_eq_true rfl) dJx4a65c_grow_92f84_27 rfl (fun v27 u27 hp27 => ?_)
  obtain ⟨rfl, rfl⟩ := hp27
  refine KSt (st2 := [.int (iI (n + maxI (((n : Int) + 1) - n) ((n / 2 : Nat) : Int)))]) rfl ?_
  refine KTop (congrArg iI (show n + maxI (((n : Int) + 1) - n) ((n / 2 : Nat) : Int) = ((n + n / 2 : Nat) : Int) from (by unfold maxI; split <;> omega))) ?_
  refine KIstore_n (lv' := [(3, .int (iI ((n + n / 2 : Nat) : Int))), (2, .int (iI n)), (0, .ref L), (1, .int (iI ((n : Int) + 1)))]) C dJx4a65c_grow_92f84_30 rfl (by decide) rfl ?_
  refine KAload_n C dJx4a65c_grow_92f84_31 rfl 2 rfl ?_
  refine KAload_n C dJx4a65c_grow_92f84_32 rfl 2 rfl ?_
  refine KGetR C ul_Jx4a65c rfl (by decide) 1 1 rfl (by decide) rfl u_fl_RJx4a65c_9 hL (b := E) hLs.2.1 dJx4a65c_grow_92f84_33 (fun _ h => h) ?_
  refine KIload_n C dJx4a65c_grow_92f84_36 rfl 0 rfl ?_
  refine KCallS2 (As := [.ref E, .int (iI ((n + n / 2 : Nat) : Int))]) (st := [.ref L]) C (ct_J7_copyOf_1904c l g S E (n + n / 2) n cb rr hA (by omega) hcb hrr hca hel) u_ml_RJx4a65c_66 u_st_yJ7_copyOf_1904c u_in_RJ7 u_co_yJ7_copyOf_1904c hd_yJ7_copyOf_1904c.2 ⟨Nat.le_of_ble_eq_true rfl, Nat.le_of_ble_eq_true rfl⟩ ⟨Nat.le_of_ble_eq_true rfl, Nat.le_of_ble_eq_true rfl⟩ (Nat.le_of_ble_eq_true rfl) dJx4a65c_grow_92f84_37 rfl (fun v37 u37 hp37 => ?_)
  obtain ⟨a37, ha37, rfl, rfl⟩ := hp37
  refine KSt (st2 := [.ref a37, .ref L]) rfl ?_
  refine KRg (fun hR => ?_)
  have hx37 := Ext.nw (S := S) ha37 21 (n + n / 2)
  have hL : At0 (cpyS S E a37 (n + n / 2) n) L 0 := ⟨(hx37 L hLs.1.1).1, (hx37 L hLs.1.1).2.1.trans hLs.1.2⟩
  refine KDup_x1 C dJx4a65c_grow_92f84_40 rfl rfl ?_
  refine KPutR (S := cpyS S E a37 (n + n / 2) n) (ty := (.array (.object "java/lang/Object"))) C ul_Jx4a65c rfl (by decide) 1 1 rfl (by decide) rfl u_fl_RJx4a65c_9 tyJx4a65c tyJx4a65c_ok nmJx4a65c hL (by decide +kernel) rfl rfl rfl dJx4a65c_grow_92f84_41 (fun _ h => h) ?_
  refine KAret (v := some a37) C rfl (by first | exact Or.inl ⟨_, rfl⟩ | exact Or.inr ⟨_, rfl⟩) (by
    exact ⟨a37, n + n / 2, ha37, rfl, Rdy.grown hLs rfl ha37 (by omega) (by omega) (by omega) (by omega)⟩) (by decide) (by decide) dJx4a65c_grow_92f84_44
def P_Jx4a65c_grow_92f84_e (S : Sto) (L : Nat) (E : Nat) (cap : Nat) (n : Nat) : Option Value → Sto → Prop := fun v u => ∃ a k, a ∉ sL S ∧ v = some (.ref a) ∧ Rdy S u L E n a k
set_option maxRecDepth 100000 in
set_option maxHeartbeats 4000000 in
theorem ct_Jx4a65c_grow_92f84_e (l : Launch) (g : GG) (S : Sto) (L : Nat) (E : Nat) (cap : Nat) (n : Nat) (hLs : Lst S (gT g) L E cap n) (hc : cap = 0) : MetS l g yJx4a65c_grow_92f84 cJx4a65c_grow_92f84 4 (some (FieldType.array (FieldType.object "java/lang/Object"))) 4 1 60 [.ref L, .int (iI ((n : Int) + 1))] S (P_Jx4a65c_grow_92f84_e S L E cap n) := by
  refine MetS.of (own := RJx4a65c) (lv := [(0, .ref L), (1, .int (iI ((n : Int) + 1)))]) (by decide) rfl (Nat.le_of_ble_eq_true rfl) rfl ?_
  intro pX eX sX mX argsX belowX methX cX C hin
  refine KRg (fun hR => ?_)
  have hcn := hLs.2.2.2.1
  have hE : E = gT g := by rcases hLs.2.2.2.2.2 with ⟨e9, -⟩ | ⟨-, -, h9⟩; exact e9; omega
  subst hE
  have hL := hLs.1
  refine KAload_n C dJx4a65c_grow_92f84_0 rfl 0 rfl ?_
  refine KGetR C ul_Jx4a65c rfl (by decide) 1 1 rfl (by decide) rfl u_fl_RJx4a65c_9 hL (b := gT g) hLs.2.1 dJx4a65c_grow_92f84_1 (fun _ h => h) ?_
  refine KAlenT C dJx4a65c_grow_92f84_4 ?_
  refine KIstore_n (lv' := [(2, .int (iI 0)), (0, .ref L), (1, .int (iI ((n : Int) + 1)))]) C dJx4a65c_grow_92f84_5 rfl (by decide) rfl ?_
  refine KIload_n C dJx4a65c_grow_92f84_6 rfl 0 rfl ?_
  refine KIf_gt (tgt := 20) C dJx4a65c_grow_92f84_7 (by decide) ⟨by omega, by omega⟩ (fun h => absurd h (by decide)) (fun _ => ?_)
  refine KAload_n C dJx4a65c_grow_92f84_10 rfl 1 rfl ?_
  refine KGetR C ul_Jx4a65c rfl (by decide) 1 1 rfl (by decide) rfl u_fl_RJx4a65c_9 hL (b := gT g) hLs.2.1 dJx4a65c_grow_92f84_11 (fun _ h => h) ?_
  refine KGetsE C u_fl_RJx4a65c_39 dJx4a65c_grow_92f84_14 ?_
  refine KAcmp_eq (rx := some (gT g)) (ry := some (gT g)) (tgt := 45) C dJx4a65c_grow_92f84_17 (by decide) (fun c17 => ?_) (fun c17 => absurd c17 (fun h9 => h9 rfl))
  refine KAload_n C dJx4a65c_grow_92f84_45 rfl 1 rfl ?_
  refine KBipush C dJx4a65c_grow_92f84_46 (by decide) ?_
  refine KIload_n C dJx4a65c_grow_92f84_48 rfl 2 rfl ?_
  refine KMmax (z := maxI 10 ((n : Int) + 1)) C ⟨by omega, by omega⟩ ⟨by omega, by omega⟩ rfl u_ml_RJx4a65c_79 u_st_yJ9_max_7cf53 u_in_RJ9 u_co_yJ9_max_7cf53 ⟨Nat.le_of_ble_eq_true rfl, Nat.le_of_ble_eq_true rfl⟩ ⟨Nat.le_of_ble_eq_true rfl, Nat.le_of_ble_eq_true rfl⟩ dJx4a65c_grow_92f84_49 ?_
  have mb1 := maxI_b 10 ((n : Int) + 1)
  refine KTop (congrArg iI (show maxI 10 ((n : Int) + 1) = ((10 : Nat) : Int) from (by unfold maxI; split <;> omega))) ?_
  refine KAnewa C 10 (by omega) (by omega) u_cl_RJx4a65c_7 ⟨by show _ + 1 ≤ 1; omega, by show _ + _ ≤ 60; omega⟩ dJx4a65c_grow_92f84_52 (fun a52 ha52 => ?_)
  refine KWiden (k := 1) (n := 60) (by omega) (by omega) ?_
  have hx52 := Ext.nw (S := S) ha52 21 10
  have hL : At0 (nw S a52 21 10) L 0 := ⟨(hx52 L hLs.1.1).1, (hx52 L hLs.1.1).2.1.trans hLs.1.2⟩
  refine KDup_x1 C dJx4a65c_grow_92f84_55 rfl rfl ?_
  refine KPutR (S := nw S a52 21 10) (ty := (.array (.object "java/lang/Object"))) C ul_Jx4a65c rfl (by decide) 1 1 rfl (by decide) rfl u_fl_RJx4a65c_9 tyJx4a65c tyJx4a65c_ok nmJx4a65c hL (by decide +kernel) rfl rfl rfl dJx4a65c_grow_92f84_56 (fun _ h => h) ?_
  refine KAret (v := some a52) C rfl (by first | exact Or.inl ⟨_, rfl⟩ | exact Or.inr ⟨_, rfl⟩) (by
    exact ⟨a52, 10, ha52, rfl, Rdy.first hLs hc ha52⟩) (by first | decide | omega) (by first | decide | omega) dJx4a65c_grow_92f84_59
def P_Jx4a65c_grow_d5877_a (S : Sto) (L : Nat) (E : Nat) (cap : Nat) (n : Nat) (cb : Nat) (rr : vw_C) : Option Value → Sto → Prop := fun v u => ∃ a k, a ∉ sL S ∧ v = some (.ref a) ∧ Rdy S u L E n a k
set_option maxRecDepth 100000 in
set_option maxHeartbeats 4000000 in
theorem ct_Jx4a65c_grow_d5877_a (l : Launch) (g : GG) (S : Sto) (L : Nat) (E : Nat) (cap : Nat) (n : Nat) (hLs : Lst S (gT g) L E cap n) (cb : Nat) (rr : vw_C) (hcb : cb < 20) (hrr : vwCl[cb]? = some rr) (hca : Cond.castable rr.1 "java/lang/Object" ∈ UN) (hel : Els S E n cb) (hn : n = cap ∧ 0 < cap ∧ cap ≤ 39) : MetS l g yJx4a65c_grow_d5877 cJx4a65c_grow_d5877 1 (some (FieldType.array (FieldType.object "java/lang/Object"))) 5 1 60 [.ref L] S (P_Jx4a65c_grow_d5877_a S L E cap n cb rr) := by
  refine MetS.of (own := RJx4a65c) (lv := [(0, .ref L)]) (by decide) rfl (Nat.le_of_ble_eq_true rfl) rfl ?_
  intro pX eX sX mX argsX belowX methX cX C hin
  refine KRg (fun hR => ?_)
  obtain ⟨hn1, hn2, hn3⟩ := hn
  have hL := hLs.1
  refine KAload_n C dJx4a65c_grow_d5877_0 rfl 0 rfl ?_
  refine KAload_n C dJx4a65c_grow_d5877_1 rfl 0 rfl ?_
  refine KGetI C ul_Jx4a65c rfl (by decide) 2 2 rfl (by decide) rfl u_fl_RJx4a65c_48 hL (v := (n : Int)) hLs.2.2.1 dJx4a65c_grow_d5877_2 (fun _ h => h) ?_
  have rb1 := hR.b L 2 (v := (n : Int)) hLs.2.2.1
  refine KIconst C dJx4a65c_grow_d5877_5 ?_
  refine KIadd C dJx4a65c_grow_d5877_6 ?_
  refine KCallV (As := [.int (iI ((n : Int) + 1))]) (b := L) (st := []) C (ct_Jx4a65c_grow_92f84_a l g S L E cap n hLs cb rr hcb hrr hca hel (by omega)) u_ml_RJx4a65c_69 u_im_yJx4a65c_grow_92f84 u_se_yJx4a65c_grow_92f84 u_in_RJx4a65c u_co_yJx4a65c_grow_92f84 hd_yJx4a65c_grow_92f84 hL (by decide) rfl rfl ⟨Nat.le_of_ble_eq_true rfl, Nat.le_of_ble_eq_true rfl⟩ ⟨Nat.le_of_ble_eq_true rfl, Nat.le_of_ble_eq_true rfl⟩ (Nat.le_of_ble_eq_true rfl) dJx4a65c_grow_d5877_7 rfl (fun v7 u7 hp7 => ?_)
  obtain ⟨a7, k7, ha7, rfl, hr7⟩ := hp7
  refine KSt (st2 := [.ref a7]) rfl ?_
  refine KRg (fun hR => ?_)
  refine KAret (v := some a7) C rfl (by first | exact Or.inl ⟨_, rfl⟩ | exact Or.inr ⟨_, rfl⟩) (by
    exact ⟨a7, k7, ha7, rfl, hr7⟩) (by decide) (by decide) dJx4a65c_grow_d5877_10
def P_Jx4a65c_grow_d5877_e (S : Sto) (L : Nat) (E : Nat) (cap : Nat) (n : Nat) : Option Value → Sto → Prop := fun v u => ∃ a k, a ∉ sL S ∧ v = some (.ref a) ∧ Rdy S u L E n a k
set_option maxRecDepth 100000 in
set_option maxHeartbeats 4000000 in
theorem ct_Jx4a65c_grow_d5877_e (l : Launch) (g : GG) (S : Sto) (L : Nat) (E : Nat) (cap : Nat) (n : Nat) (hLs : Lst S (gT g) L E cap n) (hc : cap = 0) : MetS l g yJx4a65c_grow_d5877 cJx4a65c_grow_d5877 1 (some (FieldType.array (FieldType.object "java/lang/Object"))) 5 1 60 [.ref L] S (P_Jx4a65c_grow_d5877_e S L E cap n) := by
  refine MetS.of (own := RJx4a65c) (lv := [(0, .ref L)]) (by decide) rfl (Nat.le_of_ble_eq_true rfl) rfl ?_
  intro pX eX sX mX argsX belowX methX cX C hin
  refine KRg (fun hR => ?_)
  have hcn := hLs.2.2.2.1
  have hL := hLs.1
  refine KAload_n C dJx4a65c_grow_d5877_0 rfl 0 rfl ?_
  refine KAload_n C dJx4a65c_grow_d5877_1 rfl 0 rfl ?_
  refine KGetI C ul_Jx4a65c rfl (by decide) 2 2 rfl (by decide) rfl u_fl_RJx4a65c_48 hL (v := (n : Int)) hLs.2.2.1 dJx4a65c_grow_d5877_2 (fun _ h => h) ?_
  have rb1 := hR.b L 2 (v := (n : Int)) hLs.2.2.1
  refine KIconst C dJx4a65c_grow_d5877_5 ?_
  refine KIadd C dJx4a65c_grow_d5877_6 ?_
  refine KCallV (As := [.int (iI ((n : Int) + 1))]) (b := L) (st := []) C (ct_Jx4a65c_grow_92f84_e l g S L E cap n hLs (by omega)) u_ml_RJx4a65c_69 u_im_yJx4a65c_grow_92f84 u_se_yJx4a65c_grow_92f84 u_in_RJx4a65c u_co_yJx4a65c_grow_92f84 hd_yJx4a65c_grow_92f84 hL (by decide) rfl rfl ⟨Nat.le_of_ble_eq_true rfl, Nat.le_of_ble_eq_true rfl⟩ ⟨Nat.le_of_ble_eq_true rfl, Nat.le_of_ble_eq_true rfl⟩ (Nat.le_of_ble_eq_true rfl) dJx4a65c_grow_d5877_7 rfl (fun v7 u7 hp7 => ?_)
  obtain ⟨a7, k7, ha7, rfl, hr7⟩ := hp7
  refine KSt (st2 := [.ref a7]) rfl ?_
  refine KRg (fun hR => ?_)
  refine KAret (v := some a7) C rfl (by first | exact Or.inl ⟨_, rfl⟩ | exact Or.inr ⟨_, rfl⟩) (by
    exact ⟨a7, k7, ha7, rfl, hr7⟩) (by decide) (by decide) dJx4a65c_grow_d5877_10
def P_Jx4a65c_add_72be8 (S : Sto) (L : Nat) (b : Nat) (E : Nat) (cap : Nat) (n : Nat) (cb : Nat) (rr : vw_C) (tt : Nat) : Option Value → Sto → Prop := fun v u => v = none ∧ LAdd S u tt L E n b
set_option maxRecDepth 100000 in
set_option maxHeartbeats 4000000 in
theorem ct_Jx4a65c_add_72be8 (l : Launch) (g : GG) (S : Sto) (L : Nat) (b : Nat) (E : Nat) (cap : Nat) (n : Nat) (hLs : Lst S (gT g) L E cap n) (cb : Nat) (rr : vw_C) (hcb : cb < 20) (hrr : vwCl[cb]? = some rr) (hca : Cond.castable rr.1 "java/lang/Object" ∈ UN) (hel : Els S E n cb) (hb : At0 S b cb) (hn : n ≤ 39) (tt : Nat) (htt : tt = gT g) : MetS l g yJx4a65c_add_72be8 cJx4a65c_add_72be8 4 (none) 6 1 60 [.ref L, .ref b, .ref E, .int (iI (n : Int))] S (P_Jx4a65c_add_72be8 S L b E cap n cb rr tt) := by
  refine MetS.of (own := RJx4a65c) (lv := [(0, .ref L), (1, .ref b), (2, .ref E), (3, .int (iI (n : Int)))]) (by decide) rfl (Nat.le_of_ble_eq_true rfl) rfl ?_
  intro pX eX sX mX argsX belowX methX cX C hin
  refine KRg (fun hR => ?_)
  subst htt
  have hcn := hLs.2.2.2.1
  have hc60 := hLs.2.2.2.2.1
  have hL := hLs.1
  rcases hLs.2.2.2.2.2 with ⟨hE, hcap⟩ | ⟨hE1, hE2, hE3⟩
  · subst hE
    refine KIload_n C dJx4a65c_add_72be8_0 rfl 3 rfl ?_
    refine KAload_n C dJx4a65c_add_72be8_1 rfl 2 rfl ?_
    refine KAlenT C dJx4a65c_add_72be8_2 ?_
    refine KIcmp_ne (tgt := 11) C dJx4a65c_add_72be8_3 (by decide) ⟨by omega, by omega⟩ ⟨by omega, by omega⟩ (fun c3 => absurd c3 (by omega)) (fun c3 => ?_)
    refine KAload_n C dJx4a65c_add_72be8_6 rfl 0 rfl ?_
    refine KCallV (As := []) (b := L) (st := []) C (ct_Jx4a65c_grow_d5877_e l g S L (gT g) cap n hLs (by omega)) u_ml_RJx4a65c_129 u_im_yJx4a65c_grow_d5877 u_se_yJx4a65c_grow_d5877 u_in_RJx4a65c u_co_yJx4a65c_grow_d5877 hd_yJx4a65c_grow_d5877 hL (by decide) rfl rfl ⟨Nat.le_of_ble_eq_true rfl, Nat.le_of_ble_eq_true rfl⟩ ⟨Nat.le_of_ble_eq_true rfl, Nat.le_of_ble_eq_true rfl⟩ (Nat.le_of_ble_eq_true rfl) dJx4a65c_add_72be8_7 rfl (fun v7 u7 hp7 => ?_)
    obtain ⟨a7, k7, ha7, rfl, hr7⟩ := hp7
    refine KSt (st2 := [.ref a7]) rfl ?_
    refine KRg (fun hR => ?_)
    have hb9 : At0 u7 b cb := ⟨(hr7.2.2.2.2.2.2.2.2.2.1 b hb.1).1, (hr7.2.2.2.2.2.2.2.2.2.1 b hb.1).2.1.trans hb.2⟩
    have hRd := hr7
    have hL := hr7.2.2.2.2.2.2.1
    have hnk := hr7.2.2.1
    have hk60 := hr7.2.2.2.1
    refine KAstore_n (lv' := [(2, .ref a7), (0, .ref L), (1, .ref b), (3, .int (iI (n : Int)))]) C dJx4a65c_add_72be8_10 rfl (by decide) rfl ?_
    refine KAload_n C dJx4a65c_add_72be8_11 rfl 0 rfl ?_
    refine KIload_n C dJx4a65c_add_72be8_12 rfl 3 rfl ?_
    refine KAload_n C dJx4a65c_add_72be8_13 rfl 2 rfl ?_
    refine KAast (S := u7) C k7 hr7.1 hr7.2.1 ⟨by omega, by omega⟩ (by omega) hb9 hcb hrr hca dJx4a65c_add_72be8_14 ?_
    refine KAload_n C dJx4a65c_add_72be8_15 rfl 1 rfl ?_
    refine KIload_n C dJx4a65c_add_72be8_16 rfl 3 rfl ?_
    refine KIconst C dJx4a65c_add_72be8_17 ?_
    refine KIadd C dJx4a65c_add_72be8_18 ?_
    refine KPutI (S := uP u7 a7 (n : Int) (some b)) (ty := .int) (v := (n : Int) + 1) C ul_Jx4a65c rfl (by decide) 2 2 rfl (by decide) rfl u_fl_RJx4a65c_48 tyJx4a65c tyJx4a65c_ok nmJx4a65c hL ⟨by omega, by omega⟩ (by decide +kernel) rfl rfl rfl dJx4a65c_add_72be8_19 (fun _ h => h) ?_
    refine KVret C rfl (by
      exact ⟨rfl, hRd.fin⟩) (by decide) (by decide) dJx4a65c_add_72be8_22
  · have hA : At0 S E 21 ∧ sN S E = cap := ⟨hE1, hE2⟩
    refine KIload_n C dJx4a65c_add_72be8_0 rfl 3 rfl ?_
    refine KAload_n C dJx4a65c_add_72be8_1 rfl 2 rfl ?_
    refine KAlenO C cap hA.1 hA.2 dJx4a65c_add_72be8_2 ?_
    refine KIcmp_ne (tgt := 11) C dJx4a65c_add_72be8_3 (by decide) ⟨by omega, by omega⟩ ⟨by omega, by omega⟩ (fun c3 => ?_) (fun c3 => ?_)
    · have hb9 := hb
      have hRd := Rdy.refl hLs (by omega)
      have hnk : n < cap := by omega
      refine KAload_n C dJx4a65c_add_72be8_11 rfl 2 rfl ?_
      refine KIload_n C dJx4a65c_add_72be8_12 rfl 3 rfl ?_
      refine KAload_n C dJx4a65c_add_72be8_13 rfl 1 rfl ?_
      refine KAast C cap hA.1 hA.2 ⟨by omega, by omega⟩ (by omega) hb9 hcb hrr hca dJx4a65c_add_72be8_14 ?_
      refine KAload_n C dJx4a65c_add_72be8_15 rfl 0 rfl ?_
      refine KIload_n C dJx4a65c_add_72be8_16 rfl 3 rfl ?_
      refine KIconst C dJx4a65c_add_72be8_17 ?_
      refine KIadd C dJx4a65c_add_72be8_18 ?_
      refine KPutI (S := uP S E (n : Int) (some b)) (ty := .int) (v := (n : Int) + 1) C ul_Jx4a65c rfl (by decide) 2 2 rfl (by decide) rfl u_fl_RJx4a65c_48 tyJx4a65c tyJx4a65c_ok nmJx4a65c hL ⟨by omega, by omega⟩ (by decide +kernel) rfl rfl rfl dJx4a65c_add_72be8_19 (fun _ h => h) ?_
      refine KVret C rfl (by
        exact ⟨rfl, hRd.fin⟩) (by decide) (by decide) dJx4a65c_add_72be8_22
    · refine KAload_n C dJx4a65c_add_72be8_6 rfl 0 rfl ?_
      refine KCallV (As := []) (b := L) (st := []) C (ct_Jx4a65c_grow_d5877_a l g S L E cap n hLs cb rr hcb hrr hca hel (by omega)) u_ml_RJx4a65c_129 u_im_yJx4a65c_grow_d5877 u_se_yJx4a65c_grow_d5877 u_in_RJx4a65c u_co_yJx4a65c_grow_d5877 hd_yJx4a65c_grow_d5877 hL (by decide) rfl rfl ⟨Nat.le_of_ble_eq_true rfl, Nat.le_of_ble_eq_true rfl⟩ ⟨Nat.le_of_ble_eq_true rfl, Nat.le_of_ble_eq_true rfl⟩ (Nat.le_of_ble_eq_true rfl) dJx4a65c_add_72be8_7 rfl (fun v7 u7 hp7 => ?_)
      obtain ⟨a7, k7, ha7, rfl, hr7⟩ := hp7
      refine KSt (st2 := [.ref a7]) rfl ?_
      refine KRg (fun hR => ?_)
      have hb9 : At0 u7 b cb := ⟨(hr7.2.2.2.2.2.2.2.2.2.1 b hb.1).1, (hr7.2.2.2.2.2.2.2.2.2.1 b hb.1).2.1.trans hb.2⟩
      have hRd := hr7
      have hL := hr7.2.2.2.2.2.2.1
      have hnk := hr7.2.2.1
      have hk60 := hr7.2.2.2.1
      refine KAstore_n (lv' := [(2, .ref a7), (0, .ref L), (1, .ref b), (3, .int (iI (n : Int)))]) C dJx4a65c_add_72be8_10 rfl (by decide) rfl ?_
      refine KAload_n C dJx4a65c_add_72be8_11 rfl 0 rfl ?_
      refine KIload_n C dJx4a65c_add_72be8_12 rfl 3 rfl ?_
      refine KAload_n C dJx4a65c_add_72be8_13 rfl 2 rfl ?_
      refine KAast (S := u7) C k7 hr7.1 hr7.2.1 ⟨by omega, by omega⟩ (by omega) hb9 hcb hrr hca dJx4a65c_add_72be8_14 ?_
      refine KAload_n C dJx4a65c_add_72be8_15 rfl 1 rfl ?_
      refine KIload_n C dJx4a65c_add_72be8_16 rfl 3 rfl ?_
      refine KIconst C dJx4a65c_add_72be8_17 ?_
      refine KIadd C dJx4a65c_add_72be8_18 ?_
      refine KPutI (S := uP u7 a7 (n : Int) (some b)) (ty := .int) (v := (n : Int) + 1) C ul_Jx4a65c rfl (by decide) 2 2 rfl (by decide) rfl u_fl_RJx4a65c_48 tyJx4a65c tyJx4a65c_ok nmJx4a65c hL ⟨by omega, by omega⟩ (by decide +kernel) rfl rfl rfl dJx4a65c_add_72be8_19 (fun _ h => h) ?_
      refine KVret C rfl (by
        exact ⟨rfl, hRd.fin⟩) (by decide) (by decide) dJx4a65c_add_72be8_22
def P_Jx4a65c_add_9ea2d (S : Sto) (L : Nat) (b : Nat) (E : Nat) (cap : Nat) (n : Nat) (cb : Nat) (rr : vw_C) (tt : Nat) : Option Value → Sto → Prop := fun v u => v = some (.int (iI 1)) ∧ LAdd S u tt L E n b
set_option maxRecDepth 100000 in
set_option maxHeartbeats 4000000 in
theorem ct_Jx4a65c_add_9ea2d (l : Launch) (g : GG) (S : Sto) (L : Nat) (b : Nat) (E : Nat) (cap : Nat) (n : Nat) (hLs : Lst S (gT g) L E cap n) (cb : Nat) (rr : vw_C) (hcb : cb < 20) (hrr : vwCl[cb]? = some rr) (hca : Cond.castable rr.1 "java/lang/Object" ∈ UN) (hel : Els S E n cb) (hb : At0 S b cb) (hn : n ≤ 39) (tt : Nat) (htt : tt = gT g) : MetS l g yJx4a65c_add_9ea2d cJx4a65c_add_9ea2d 2 (some FieldType.boolean) 7 1 60 [.ref L, .ref b] S (P_Jx4a65c_add_9ea2d S L b E cap n cb rr tt) := by
  refine MetS.of (own := RJx4a65c) (lv := [(0, .ref L), (1, .ref b)]) (by decide) rfl (Nat.le_of_ble_eq_true rfl) rfl ?_
  intro pX eX sX mX argsX belowX methX cX C hin
  refine KRg (fun hR => ?_)
  subst htt
  have hcn := hLs.2.2.2.1
  have hc60 := hLs.2.2.2.2.1
  have hL := hLs.1
  refine KAload_n C dJx4a65c_add_9ea2d_0 rfl 0 rfl ?_
  refine KDup C dJx4a65c_add_9ea2d_1 rfl ?_
  refine KGetI C ul_Jx4a65c rfl (by decide) 0 0 rfl (by decide) rfl u_fl_RJx4a65c_63 hL (v := sI S L 0) rfl dJx4a65c_add_9ea2d_2 (fun x9 h9 => u_same (C.words _ u_sf_146) x9 h9) ?_
  have rb1 := hR.b L 0 (v := sI S L 0) rfl
  refine KIconst C dJx4a65c_add_9ea2d_5 ?_
  refine KIadd C dJx4a65c_add_9ea2d_6 ?_
  refine KTop (show iI ((sI S L 0) + 1) = iI ((iI (sI S L 0 + 1)).toInt) from (iI_of _).symm) ?_
  obtain ⟨hw1, hw2⟩ := inR_of (iI (sI S L 0 + 1))
  refine KPutI (ty := .int) (v := (iI (sI S L 0 + 1)).toInt) C ul_Jx4a65c rfl (by decide) 0 0 rfl (by decide) rfl u_fl_RJx4a65c_63 tyJx4a65c tyJx4a65c_ok nmJx4a65c hL ⟨by omega, by omega⟩ (by decide +kernel) rfl rfl rfl dJx4a65c_add_9ea2d_7 (fun x9 h9 => u_same (C.words _ u_sf_146) x9 h9) ?_
  have hLs9 := hLs.uI0 (iI (sI S L 0 + 1)).toInt
  refine KAload_n C dJx4a65c_add_9ea2d_10 rfl 0 rfl ?_
  refine KAload_n C dJx4a65c_add_9ea2d_11 rfl 1 rfl ?_
  refine KAload_n C dJx4a65c_add_9ea2d_12 rfl 0 rfl ?_
  refine KGetR (S := uI S L 0 ((iI (sI S L 0 + 1)).toInt)) C ul_Jx4a65c rfl (by decide) 1 1 rfl (by decide) rfl u_fl_RJx4a65c_9 hL (b := E) hLs.2.1 dJx4a65c_add_9ea2d_13 (fun _ h => h) ?_
  refine KAload_n C dJx4a65c_add_9ea2d_16 rfl 0 rfl ?_
  refine KGetI (S := uI S L 0 ((iI (sI S L 0 + 1)).toInt)) C ul_Jx4a65c rfl (by decide) 2 2 rfl (by decide) rfl u_fl_RJx4a65c_48 hL (v := (n : Int)) hLs9.2.2.1 dJx4a65c_add_9ea2d_17 (fun _ h => h) ?_
  refine KCallV (As := [.ref b, .ref E, .int (iI (n : Int))]) (b := L) (st := []) C (ct_Jx4a65c_add_72be8 l g (uI S L 0 ((iI (sI S L 0 + 1)).toInt)) L b E cap n hLs9 cb rr hcb hrr hca hel hb (by omega) (gT g) rfl) u_ml_RJx4a65c_131 u_im_yJx4a65c_add_72be8 u_se_yJx4a65c_add_72be8 u_in_RJx4a65c u_co_yJx4a65c_add_72be8 hd_yJx4a65c_add_72be8 hL (by decide) rfl rfl ⟨Nat.le_of_ble_eq_true rfl, Nat.le_of_ble_eq_true rfl⟩ ⟨Nat.le_of_ble_eq_true rfl, Nat.le_of_ble_eq_true rfl⟩ (Nat.le_of_ble_eq_true rfl) dJx4a65c_add_9ea2d_20 rfl (fun v20 u20 hp20 => ?_)
  obtain ⟨rfl, hadd20⟩ := hp20
  refine KSt (st2 := []) rfl ?_
  refine KRg (fun hR => ?_)
  refine KIconst C dJx4a65c_add_9ea2d_23 ?_
  refine KIret C rfl rfl (by
    exact ⟨rfl, hadd20.pre⟩) (by decide) (by decide) dJx4a65c_add_9ea2d_24
def P_Jx4a65c_fastRemove_b59b0 (S : Sto) (L : Nat) (E : Nat) (i : Nat) (cap : Nat) (n : Nat) (cb : Nat) (rr : vw_C) (tt : Nat) : Option Value → Sto → Prop := fun v u => v = none ∧ LRem S u tt L E cap n i
set_option maxRecDepth 100000 in
set_option maxHeartbeats 4000000 in
theorem ct_Jx4a65c_fastRemove_b59b0 (l : Launch) (g : GG) (S : Sto) (L : Nat) (E : Nat) (i : Nat) (cap : Nat) (n : Nat) (hLs : Lst S (gT g) L E cap n) (cb : Nat) (rr : vw_C) (hcb : cb < 20) (hrr : vwCl[cb]? = some rr) (hca : Cond.castable rr.1 "java/lang/Object" ∈ UN) (hel : Els S E n cb) (hi : i < n) (tt : Nat) (htt : tt = gT g) : MetS l g yJx4a65c_fastRemove_b59b0 cJx4a65c_fastRemove_b59b0 4 (none) 1 0 0 [.ref L, .ref E, .int (iI (i : Int))] S (P_Jx4a65c_fastRemove_b59b0 S L E i cap n cb rr tt) := by
  refine MetS.of (own := RJx4a65c) (lv := [(0, .ref L), (1, .ref E), (2, .int (iI (i : Int)))]) (by decide) rfl (Nat.le_of_ble_eq_true rfl) rfl ?_
  intro pX eX sX mX argsX belowX methX cX C hin
  refine KRg (fun hR => ?_)
  subst htt
  have hcn := hLs.2.2.2.1
  have hc60 := hLs.2.2.2.2.1
  have hL := hLs.1
  have hA := hLs.arr (by omega)
  refine KAload_n C dJx4a65c_fastRemove_b59b0_0 rfl 0 rfl ?_
  refine KDup C dJx4a65c_fastRemove_b59b0_1 rfl ?_
  refine KGetI C ul_Jx4a65c rfl (by decide) 0 0 rfl (by decide) rfl u_fl_RJx4a65c_63 hL (v := sI S L 0) rfl dJx4a65c_fastRemove_b59b0_2 (fun x9 h9 => u_same (C.words _ u_sf_146) x9 h9) ?_
  have rb1 := hR.b L 0 (v := sI S L 0) rfl
  refine KIconst C dJx4a65c_fastRemove_b59b0_5 ?_
  refine KIadd C dJx4a65c_fastRemove_b59b0_6 ?_
  refine KTop (show iI ((sI S L 0) + 1) = iI ((iI (sI S L 0 + 1)).toInt) from (iI_of _).symm) ?_
  obtain ⟨hw1, hw2⟩ := inR_of (iI (sI S L 0 + 1))
  refine KPutI (ty := .int) (v := (iI (sI S L 0 + 1)).toInt) C ul_Jx4a65c rfl (by decide) 0 0 rfl (by decide) rfl u_fl_RJx4a65c_63 tyJx4a65c tyJx4a65c_ok nmJx4a65c hL ⟨by omega, by omega⟩ (by decide +kernel) rfl rfl rfl dJx4a65c_fastRemove_b59b0_7 (fun x9 h9 => u_same (C.words _ u_sf_146) x9 h9) ?_
  refine KAload_n C dJx4a65c_fastRemove_b59b0_10 rfl 0 rfl ?_
  refine KGetI (S := uI S L 0 ((iI (sI S L 0 + 1)).toInt)) C ul_Jx4a65c rfl (by decide) 2 2 rfl (by decide) rfl u_fl_RJx4a65c_48 hL (v := (n : Int)) ((up2_nk _ _ _ _ (by decide)).trans hLs.2.2.1) dJx4a65c_fastRemove_b59b0_11 (fun _ h => h) ?_
  refine KIconst C dJx4a65c_fastRemove_b59b0_14 ?_
  refine KIsub C dJx4a65c_fastRemove_b59b0_15 ?_
  refine KDup C dJx4a65c_fastRemove_b59b0_16 rfl ?_
  refine KIstore_n (lv' := [(3, .int (iI ((n : Int) - 1))), (0, .ref L), (1, .ref E), (2, .int (iI (i : Int)))]) C dJx4a65c_fastRemove_b59b0_17 rfl (by decide) rfl ?_
  refine KIload_n C dJx4a65c_fastRemove_b59b0_18 rfl 3 rfl ?_
  refine KIcmp_le (tgt := 34) C dJx4a65c_fastRemove_b59b0_19 (by decide) ⟨by omega, by omega⟩ ⟨by omega, by omega⟩ (fun c19 => ?_) (fun c19 => ?_)
  · refine KAload_n C dJx4a65c_fastRemove_b59b0_34 rfl 2 rfl ?_
    refine KAload_n C dJx4a65c_fastRemove_b59b0_35 rfl 1 rfl ?_
    refine KIload_n C dJx4a65c_fastRemove_b59b0_36 rfl 0 rfl ?_
    refine KDup_x1 C dJx4a65c_fastRemove_b59b0_37 rfl rfl ?_
    refine KPutI (S := uI S L 0 ((iI (sI S L 0 + 1)).toInt)) (ty := .int) (v := (n : Int) - 1) C ul_Jx4a65c rfl (by decide) 2 2 rfl (by decide) rfl u_fl_RJx4a65c_48 tyJx4a65c tyJx4a65c_ok nmJx4a65c hL ⟨by omega, by omega⟩ (by decide +kernel) rfl rfl rfl dJx4a65c_fastRemove_b59b0_38 (fun _ h => h) ?_
    refine KAnull C dJx4a65c_fastRemove_b59b0_41 ?_
    refine KAastN (S := uI (uI S L 0 ((iI (sI S L 0 + 1)).toInt)) L 2 ((n : Int) - 1)) C cap hA.1 hA.2 ⟨by omega, by omega⟩ (by omega) dJx4a65c_fastRemove_b59b0_42 ?_
    refine KVret C rfl (by
      first | exact ⟨rfl, LRem.fin1 hLs hi⟩ | exact ⟨rfl, LRem.fin0 hLs hi (by omega)⟩) (by decide) (by decide) dJx4a65c_fastRemove_b59b0_43
  · refine KAload_n C dJx4a65c_fastRemove_b59b0_22 rfl 2 rfl ?_
    refine KIload_n C dJx4a65c_fastRemove_b59b0_23 rfl 3 rfl ?_
    refine KIconst C dJx4a65c_fastRemove_b59b0_24 ?_
    refine KIadd C dJx4a65c_fastRemove_b59b0_25 ?_
    refine KAload_n C dJx4a65c_fastRemove_b59b0_26 rfl 2 rfl ?_
    refine KIload_n C dJx4a65c_fastRemove_b59b0_27 rfl 3 rfl ?_
    refine KIload_n C dJx4a65c_fastRemove_b59b0_28 rfl 0 rfl ?_
    refine KIload_n C dJx4a65c_fastRemove_b59b0_29 rfl 3 rfl ?_
    refine KIsub C dJx4a65c_fastRemove_b59b0_30 ?_
    refine KCopyq (S := (uI S L 0 ((iI (sI S L 0 + 1)).toInt))) (a0 := E) (a := E) C cap cap (i + 1) i (n - 1 - i) x_ml112 hA.1 hA.2 hA.1 hA.2 (by omega) (by omega) (by omega) (by omega) (by omega) ⟨by omega, by omega⟩ hcb hrr hca (fun i9 hi9 y9 hy9 => hel (i + 1 + i9) (by omega) y9 hy9) ⟨Nat.le_of_ble_eq_true rfl, Nat.le_of_ble_eq_true rfl⟩ dJx4a65c_fastRemove_b59b0_31 ?_
    refine KAload_n C dJx4a65c_fastRemove_b59b0_34 rfl 2 rfl ?_
    refine KAload_n C dJx4a65c_fastRemove_b59b0_35 rfl 1 rfl ?_
    refine KIload_n C dJx4a65c_fastRemove_b59b0_36 rfl 0 rfl ?_
    refine KDup_x1 C dJx4a65c_fastRemove_b59b0_37 rfl rfl ?_
    refine KPutI (S := wP (uI S L 0 ((iI (sI S L 0 + 1)).toInt)) (rowP (sP (uI S L 0 ((iI (sI S L 0 + 1)).toInt))) E (cpI (sP (uI S L 0 ((iI (sI S L 0 + 1)).toInt)) E) (sP (uI S L 0 ((iI (sI S L 0 + 1)).toInt)) E) (i + 1) i (n - 1 - i)))) (ty := .int) (v := (n : Int) - 1) C ul_Jx4a65c rfl (by decide) 2 2 rfl (by decide) rfl u_fl_RJx4a65c_48 tyJx4a65c tyJx4a65c_ok nmJx4a65c hL ⟨by omega, by omega⟩ (by decide +kernel) rfl rfl rfl dJx4a65c_fastRemove_b59b0_38 (fun _ h => h) ?_
    refine KAnull C dJx4a65c_fastRemove_b59b0_41 ?_
    refine KAastN (S := uI (wP (uI S L 0 ((iI (sI S L 0 + 1)).toInt)) (rowP (sP (uI S L 0 ((iI (sI S L 0 + 1)).toInt))) E (cpI (sP (uI S L 0 ((iI (sI S L 0 + 1)).toInt)) E) (sP (uI S L 0 ((iI (sI S L 0 + 1)).toInt)) E) (i + 1) i (n - 1 - i)))) L 2 ((n : Int) - 1)) C cap hA.1 hA.2 ⟨by omega, by omega⟩ (by omega) dJx4a65c_fastRemove_b59b0_42 ?_
    refine KVret C rfl (by
      first | exact ⟨rfl, LRem.fin1 hLs hi⟩ | exact ⟨rfl, LRem.fin0 hLs hi (by omega)⟩) (by decide) (by decide) dJx4a65c_fastRemove_b59b0_43
def P_Jx4a65c_remove_915e3 (S : Sto) (L : Nat) (i : Nat) (E : Nat) (cap : Nat) (n : Nat) (b : Nat) (cb : Nat) (rr : vw_C) (tt : Nat) : Option Value → Sto → Prop := fun v u => v = some (.ref b) ∧ LRem S u tt L E cap n i
set_option maxRecDepth 100000 in
set_option maxHeartbeats 4000000 in
theorem ct_Jx4a65c_remove_915e3 (l : Launch) (g : GG) (S : Sto) (L : Nat) (i : Nat) (E : Nat) (cap : Nat) (n : Nat) (b : Nat) (hLs : Lst S (gT g) L E cap n) (cb : Nat) (rr : vw_C) (hcb : cb < 20) (hrr : vwCl[cb]? = some rr) (hca : Cond.castable rr.1 "java/lang/Object" ∈ UN) (hel : Els S E n cb) (hi : i < n) (hb : sP S E (i : Int) = some b) (tt : Nat) (htt : tt = gT g) : MetS l g yJx4a65c_remove_915e3 cJx4a65c_remove_915e3 4 (some (FieldType.object "java/lang/Object")) 3 0 0 [.ref L, .int (iI (i : Int))] S (P_Jx4a65c_remove_915e3 S L i E cap n b cb rr tt) := by
  refine MetS.of (own := RJx4a65c) (lv := [(0, .ref L), (1, .int (iI (i : Int)))]) (by decide) rfl (Nat.le_of_ble_eq_true rfl) rfl ?_
  intro pX eX sX mX argsX belowX methX cX C hin
  refine KRg (fun hR => ?_)
  subst htt
  have hcn := hLs.2.2.2.1
  have hc60 := hLs.2.2.2.2.1
  have hL := hLs.1
  have hA := hLs.arr (by omega)
  refine KIload_n C dJx4a65c_remove_915e3_0 rfl 1 rfl ?_
  refine KAload_n C dJx4a65c_remove_915e3_1 rfl 0 rfl ?_
  refine KGetI C ul_Jx4a65c rfl (by decide) 2 2 rfl (by decide) rfl u_fl_RJx4a65c_48 hL (v := (n : Int)) hLs.2.2.1 dJx4a65c_remove_915e3_2 (fun _ h => h) ?_
  have rb1 := hR.b L 2 (v := (n : Int)) hLs.2.2.1
  refine KCallS2 (As := [.int (iI (i : Int)), .int (iI (n : Int))]) (st := []) C (ct_J15_checkIndex_7cf53 l g S (i : Int) (n : Int) (by omega)) u_ml_RJx4a65c_118 u_st_yJ15_checkIndex_7cf53 u_in_RJ15 u_co_yJ15_checkIndex_7cf53 hd_yJ15_checkIndex_7cf53.2 ⟨Nat.le_of_ble_eq_true rfl, Nat.le_of_ble_eq_true rfl⟩ ⟨Nat.le_of_ble_eq_true rfl, Nat.le_of_ble_eq_true rfl⟩ (Nat.le_of_ble_eq_true rfl) dJx4a65c_remove_915e3_5 rfl (fun v5 u5 hp5 => ?_)
  obtain ⟨rfl, rfl⟩ := hp5
  refine KSt (st2 := [.int (iI (i : Int))]) rfl ?_
  refine KPop C dJx4a65c_remove_915e3_8 rfl ?_
  refine KAload_n C dJx4a65c_remove_915e3_9 rfl 0 rfl ?_
  refine KGetR C ul_Jx4a65c rfl (by decide) 1 1 rfl (by decide) rfl u_fl_RJx4a65c_9 hL (b := E) hLs.2.1 dJx4a65c_remove_915e3_10 (fun _ h => h) ?_
  refine KAstore_n (lv' := [(2, .ref E), (0, .ref L), (1, .int (iI (i : Int)))]) C dJx4a65c_remove_915e3_13 rfl (by decide) rfl ?_
  refine KAload_n C dJx4a65c_remove_915e3_14 rfl 0 rfl ?_
  refine KIload_n C dJx4a65c_remove_915e3_15 rfl 2 rfl ?_
  refine KAaldR (b := b) C cap hA.1 hA.2 ⟨by omega, by omega⟩ (by omega) hb dJx4a65c_remove_915e3_16 ?_
  refine KAstore_n (lv' := [(3, .ref b), (2, .ref E), (0, .ref L), (1, .int (iI (i : Int)))]) C dJx4a65c_remove_915e3_17 rfl (by decide) rfl ?_
  refine KAload_n C dJx4a65c_remove_915e3_18 rfl 2 rfl ?_
  refine KAload_n C dJx4a65c_remove_915e3_19 rfl 1 rfl ?_
  refine KIload_n C dJx4a65c_remove_915e3_20 rfl 3 rfl ?_
  refine KCallV (As := [.ref E, .int (iI (i : Int))]) (b := L) (st := []) C (ct_Jx4a65c_fastRemove_b59b0 l g S L E i cap n hLs cb rr hcb hrr hca hel (by omega) (gT g) rfl) u_ml_RJx4a65c_144 u_im_yJx4a65c_fastRemove_b59b0 u_se_yJx4a65c_fastRemove_b59b0 u_in_RJx4a65c u_co_yJx4a65c_fastRemove_b59b0 hd_yJx4a65c_fastRemove_b59b0 hL (by decide) rfl rfl ⟨Nat.le_of_ble_eq_true rfl, Nat.le_of_ble_eq_true rfl⟩ ⟨Nat.le_of_ble_eq_true rfl, Nat.le_of_ble_eq_true rfl⟩ (Nat.le_of_ble_eq_true rfl) dJx4a65c_remove_915e3_21 rfl (fun v21 u21 hp21 => ?_)
  obtain ⟨rfl, hrem21⟩ := hp21
  refine KSt (st2 := []) rfl ?_
  refine KRg (fun hR => ?_)
  refine KAload_n C dJx4a65c_remove_915e3_24 rfl 0 rfl ?_
  refine KAret (v := some b) C rfl (by first | exact Or.inl ⟨_, rfl⟩ | exact Or.inr ⟨_, rfl⟩) (by
    exact ⟨rfl, hrem21⟩) (by decide) (by decide) dJx4a65c_remove_915e3_25
