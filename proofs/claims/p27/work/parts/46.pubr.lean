def P_X5_placeOf (S : Sto) (q : Nat → Nat) (p : Int) (z : Sig) (tt : Nat) : Option Value → Sto → Prop := fun v u => ∃ r z', oPl z p = (0, r, z') ∧ v = some (.int (iI r)) ∧ CP S q tt u z'
def T_X5_placeOf (S : Sto) (q : Nat → Nat) (p : Int) (z : Sig) (tt : Nat) : String → Sto → Prop := fun E u => ((oPl z p = (1, 0, z) ∧ E = "java/lang/IndexOutOfBoundsException")) ∧ CP S q tt u z
set_option maxRecDepth 100000 in
set_option maxHeartbeats 4000000 in
theorem ct_X5_placeOf (l : Launch) (g : GG) (hnt : l.stackTraces = false) (S : Sto) (q : Nat → Nat) (p : Int) (z : Sig) (hT : Top S q) (hW : Wf z) (hCR : CR S q (gT g) z) (hip : inR p) (tt : Nat) (htt : tt = gT g) : MetX l g yX5_placeOf cX5_placeOf 2 (some FieldType.int) 7 1 6 [.ref (q 0), .int (iI p)] S (P_X5_placeOf S q p z tt) (T_X5_placeOf S q p z tt) := by
  refine MetX.of (own := RX5) (lv := [(0, .ref (q 0)), (1, .int (iI p))]) (by decide) rfl (Nat.le_of_ble_eq_true rfl) rfl ?_
  intro pX eX sX mX argsX belowX methX cX C hne
  refine KRg (fun hR => ?_)
  obtain ⟨p1, p2⟩ := id hip
  obtain ⟨w, hCw⟩ := hCR
  obtain ⟨hWh, hBk, hOr, hBt, hBV, hRt, hz⟩ := id hCw
  obtain ⟨e10, e11, e12, e6, e7, e04, e05, e06⟩ := id hWh
  have hC := hW.1
  have hCf : Cf S q := ⟨by omega, by omega, by omega, by omega, by omega, by omega⟩
  have hn4 := hBk.1.2.2.2.1
  have hn40 := hBk.1.2.2.2.2.1
  have hn5 := hBt.1.2.2.2.1
  have hn60 := hBt.1.2.2.2.2.1
  have ho40 := hW.2.1
  have hCP : CP S q tt S z := by rw [htt]; exact CP.refl hT ⟨w, hCw⟩
  refine KIload_n C dX5_placeOf_0 rfl 1 rfl ?_
  refine KCallSX (As := [.int (iI p)]) (st := []) C (ct_X5_checkProduct l g hnt S p (⟨by omega, by omega⟩)) hne (fun E u ⟨h1, h2, h3⟩ => by subst h3; exact ⟨⟨(by unfold oPl; (repeat' split) <;> first | rfl | omega), h1⟩, hCP⟩) ⟨Nat.le_of_ble_eq_true rfl, Nat.le_of_ble_eq_true rfl⟩ u_ml_RX5_51 u_st_yX5_checkProduct u_in_RX5 u_co_yX5_checkProduct hd_yX5_checkProduct ⟨Nat.le_of_ble_eq_true rfl, Nat.le_of_ble_eq_true rfl⟩ ⟨Nat.le_of_ble_eq_true rfl, Nat.le_of_ble_eq_true rfl⟩ (Nat.le_of_ble_eq_true rfl) dX5_placeOf_1 rfl (fun v1 u1 hp1 => ?_)
  obtain ⟨rfl, hck1, rfl⟩ := hp1
  refine KSt (st2 := []) rfl ?_
  refine KAload_n C dX5_placeOf_4 rfl 0 rfl ?_
  refine KGetR C ul_X5 rfl (by decide) 0 0 rfl (by decide) rfl u_fl_RX5_18 (hT.at0 0 6) (b := q 1) (hT.ptr 0 0 1) dX5_placeOf_5 (fun _ h => h) ?_
  refine KGetRN C ul_X3 rfl (by decide) 3 3 rfl (by decide) rfl n_fn_RX5_91 (hT.at0 1 4) (b := q 6) (hT.ptr 1 3 6) dX5_placeOf_8 (fun _ h => h) ?_
  refine KIload_n C dX5_placeOf_11 rfl 1 rfl ?_
  refine KIald  (v := zP z p) C 20 (hT.at0 6 20) (hT.ln0 6 20) ⟨by omega, by omega⟩ (by omega) (congrFun e6 _) dX5_placeOf_12 ?_
  have rb1 := hR.b (q 6) p (v := zP z p) (congrFun e6 _)
  refine KX ?_
  refine KIret C rfl rfl (by
    exact ⟨_, _, (by unfold oPl; (repeat' split) <;> first | rfl | omega), rfl, hCP⟩) (by decide) (by decide) dX5_placeOf_13
def P_X5_turnover (S : Sto) (q : Nat → Nat) (p : Int) (z : Sig) (tt : Nat) : Option Value → Sto → Prop := fun v u => ∃ r z', oTv z p = (0, r, z') ∧ v = some (.int (iI r)) ∧ CP S q tt u z'
def T_X5_turnover (S : Sto) (q : Nat → Nat) (p : Int) (z : Sig) (tt : Nat) : String → Sto → Prop := fun E u => ((oTv z p = (1, 0, z) ∧ E = "java/lang/IndexOutOfBoundsException")) ∧ CP S q tt u z
set_option maxRecDepth 100000 in
set_option maxHeartbeats 4000000 in
theorem ct_X5_turnover (l : Launch) (g : GG) (hnt : l.stackTraces = false) (S : Sto) (q : Nat → Nat) (p : Int) (z : Sig) (hT : Top S q) (hW : Wf z) (hCR : CR S q (gT g) z) (hip : inR p) (tt : Nat) (htt : tt = gT g) : MetX l g yX5_turnover cX5_turnover 2 (some FieldType.int) 7 1 6 [.ref (q 0), .int (iI p)] S (P_X5_turnover S q p z tt) (T_X5_turnover S q p z tt) := by
  refine MetX.of (own := RX5) (lv := [(0, .ref (q 0)), (1, .int (iI p))]) (by decide) rfl (Nat.le_of_ble_eq_true rfl) rfl ?_
  intro pX eX sX mX argsX belowX methX cX C hne
  refine KRg (fun hR => ?_)
  obtain ⟨p1, p2⟩ := id hip
  obtain ⟨w, hCw⟩ := hCR
  obtain ⟨hWh, hBk, hOr, hBt, hBV, hRt, hz⟩ := id hCw
  obtain ⟨e10, e11, e12, e6, e7, e04, e05, e06⟩ := id hWh
  have hC := hW.1
  have hCf : Cf S q := ⟨by omega, by omega, by omega, by omega, by omega, by omega⟩
  have hn4 := hBk.1.2.2.2.1
  have hn40 := hBk.1.2.2.2.2.1
  have hn5 := hBt.1.2.2.2.1
  have hn60 := hBt.1.2.2.2.2.1
  have ho40 := hW.2.1
  have hCP : CP S q tt S z := by rw [htt]; exact CP.refl hT ⟨w, hCw⟩
  refine KIload_n C dX5_turnover_0 rfl 1 rfl ?_
  refine KCallSX (As := [.int (iI p)]) (st := []) C (ct_X5_checkProduct l g hnt S p (⟨by omega, by omega⟩)) hne (fun E u ⟨h1, h2, h3⟩ => by subst h3; exact ⟨⟨(by unfold oTv; (repeat' split) <;> first | rfl | omega), h1⟩, hCP⟩) ⟨Nat.le_of_ble_eq_true rfl, Nat.le_of_ble_eq_true rfl⟩ u_ml_RX5_51 u_st_yX5_checkProduct u_in_RX5 u_co_yX5_checkProduct hd_yX5_checkProduct ⟨Nat.le_of_ble_eq_true rfl, Nat.le_of_ble_eq_true rfl⟩ ⟨Nat.le_of_ble_eq_true rfl, Nat.le_of_ble_eq_true rfl⟩ (Nat.le_of_ble_eq_true rfl) dX5_turnover_1 rfl (fun v1 u1 hp1 => ?_)
  obtain ⟨rfl, hck1, rfl⟩ := hp1
  refine KSt (st2 := []) rfl ?_
  refine KAload_n C dX5_turnover_4 rfl 0 rfl ?_
  refine KGetR C ul_X5 rfl (by decide) 0 0 rfl (by decide) rfl u_fl_RX5_18 (hT.at0 0 6) (b := q 1) (hT.ptr 0 0 1) dX5_turnover_5 (fun _ h => h) ?_
  refine KGetRN C ul_X3 rfl (by decide) 4 4 rfl (by decide) rfl n_fn_RX5_95 (hT.at0 1 4) (b := q 7) (hT.ptr 1 4 7) dX5_turnover_8 (fun _ h => h) ?_
  refine KIload_n C dX5_turnover_11 rfl 1 rfl ?_
  refine KIald  (v := ztv z p) C 20 (hT.at0 7 20) (hT.ln0 7 20) ⟨by omega, by omega⟩ (by omega) (by obtain ⟨n9, hn9⟩ : ∃ n9 : Nat, p = (n9 : Int) := ⟨p.toNat, by omega⟩; rw [hn9]; exact e7 n9 (by omega)) dX5_turnover_12 ?_
  have rb1 := hR.b (q 7) p (v := ztv z p) (by obtain ⟨n9, hn9⟩ : ∃ n9 : Nat, p = (n9 : Int) := ⟨p.toNat, by omega⟩; rw [hn9]; exact e7 n9 (by omega))
  refine KX ?_
  refine KIret C rfl rfl (by
    exact ⟨_, _, (by unfold oTv; (repeat' split) <;> first | rfl | omega), rfl, hCP⟩) (by decide) (by decide) dX5_turnover_13
def P_X5_distance (S : Sto) (q : Nat → Nat) (x : Int) (y : Int) (z : Sig) (tt : Nat) : Option Value → Sto → Prop := fun v u => ∃ r z', oDi z x y = (0, r, z') ∧ v = some (.int (iI r)) ∧ CP S q tt u z'
def T_X5_distance (S : Sto) (q : Nat → Nat) (x : Int) (y : Int) (z : Sig) (tt : Nat) : String → Sto → Prop := fun E u => ((oDi z x y = (1, 0, z) ∧ E = "java/lang/IndexOutOfBoundsException") ∨ (oDi z x y = (2, 0, z) ∧ E = "java/lang/IllegalStateException")) ∧ CP S q tt u z
set_option maxRecDepth 100000 in
set_option maxHeartbeats 4000000 in
theorem ct_X5_distance (l : Launch) (g : GG) (hnt : l.stackTraces = false) (S : Sto) (q : Nat → Nat) (x : Int) (y : Int) (z : Sig) (hT : Top S q) (hW : Wf z) (hCR : CR S q (gT g) z) (hix : inR x) (hiy : inR y) (tt : Nat) (htt : tt = gT g) : MetX l g yX5_distance cX5_distance 5 (some FieldType.int) 7 3 18 [.ref (q 0), .int (iI x), .int (iI y)] S (P_X5_distance S q x y z tt) (T_X5_distance S q x y z tt) := by
  refine MetX.of (own := RX5) (lv := [(0, .ref (q 0)), (1, .int (iI x)), (2, .int (iI y))]) (by decide) rfl (Nat.le_of_ble_eq_true rfl) rfl ?_
  intro pX eX sX mX argsX belowX methX cX C hne
  refine KRg (fun hR => ?_)
  obtain ⟨x1, x2⟩ := id hix
  obtain ⟨y1, y2⟩ := id hiy
  obtain ⟨w, hCw⟩ := hCR
  obtain ⟨hWh, hBk, hOr, hBt, hBV, hRt, hz⟩ := id hCw
  obtain ⟨e10, e11, e12, e6, e7, e04, e05, e06⟩ := id hWh
  have hC := hW.1
  have hCf : Cf S q := ⟨by omega, by omega, by omega, by omega, by omega, by omega⟩
  have hn4 := hBk.1.2.2.2.1
  have hn40 := hBk.1.2.2.2.2.1
  have hn5 := hBt.1.2.2.2.1
  have hn60 := hBt.1.2.2.2.2.1
  have ho40 := hW.2.1
  have hCP : CP S q tt S z := by rw [htt]; exact CP.refl hT ⟨w, hCw⟩
  refine KIload_n C dX5_distance_0 rfl 1 rfl ?_
  refine KCallSX (As := [.int (iI x)]) (st := []) C (ct_X5_checkProduct l g hnt S x (⟨by omega, by omega⟩)) hne (fun E u ⟨h1, h2, h3⟩ => by subst h3; exact ⟨Or.inl ⟨(by unfold oDi; (repeat' split) <;> first | rfl | omega), h1⟩, hCP⟩) ⟨Nat.le_of_ble_eq_true rfl, Nat.le_of_ble_eq_true rfl⟩ u_ml_RX5_51 u_st_yX5_checkProduct u_in_RX5 u_co_yX5_checkProduct hd_yX5_checkProduct ⟨Nat.le_of_ble_eq_true rfl, Nat.le_of_ble_eq_true rfl⟩ ⟨Nat.le_of_ble_eq_true rfl, Nat.le_of_ble_eq_true rfl⟩ (Nat.le_of_ble_eq_true rfl) dX5_distance_1 rfl (fun v1 u1 hp1 => ?_)
  obtain ⟨rfl, hck1, rfl⟩ := hp1
  refine KSt (st2 := []) rfl ?_
  refine KIload_n C dX5_distance_4 rfl 2 rfl ?_
  refine KCallSX (As := [.int (iI y)]) (st := []) C (ct_X5_checkProduct l g hnt S y (⟨by omega, by omega⟩)) hne (fun E u ⟨h1, h2, h3⟩ => by subst h3; exact ⟨Or.inl ⟨(by unfold oDi; (repeat' split) <;> first | rfl | omega), h1⟩, hCP⟩) ⟨Nat.le_of_ble_eq_true rfl, Nat.le_of_ble_eq_true rfl⟩ u_ml_RX5_51 u_st_yX5_checkProduct u_in_RX5 u_co_yX5_checkProduct hd_yX5_checkProduct ⟨Nat.le_of_ble_eq_true rfl, Nat.le_of_ble_eq_true rfl⟩ ⟨Nat.le_of_ble_eq_true rfl, Nat.le_of_ble_eq_true rfl⟩ (Nat.le_of_ble_eq_true rfl) dX5_distance_5 rfl (fun v5 u5 hp5 => ?_)
  obtain ⟨rfl, hck5, rfl⟩ := hp5
  refine KSt (st2 := []) rfl ?_
  have hpx := hW.plI (x := x) (by omega)
  have hpy := hW.plI (x := y) (by omega)
  refine KAload_n C dX5_distance_8 rfl 0 rfl ?_
  refine KGetR C ul_X5 rfl (by decide) 0 0 rfl (by decide) rfl u_fl_RX5_18 (hT.at0 0 6) (b := q 1) (hT.ptr 0 0 1) dX5_distance_9 (fun _ h => h) ?_
  refine KGetRN C ul_X3 rfl (by decide) 3 3 rfl (by decide) rfl n_fn_RX5_91 (hT.at0 1 4) (b := q 6) (hT.ptr 1 3 6) dX5_distance_12 (fun _ h => h) ?_
  refine KIload_n C dX5_distance_15 rfl 1 rfl ?_
  refine KIald  (v := zP z x) C 20 (hT.at0 6 20) (hT.ln0 6 20) ⟨by omega, by omega⟩ (by omega) (congrFun e6 _) dX5_distance_16 ?_
  have rb1 := hR.b (q 6) x (v := zP z x) (congrFun e6 _)
  refine KIstore_n (lv' := [(3, .int (iI (zP z x))), (0, .ref (q 0)), (1, .int (iI x)), (2, .int (iI y))]) C dX5_distance_17 rfl (by decide) rfl ?_
  refine KAload_n C dX5_distance_18 rfl 1 rfl ?_
  refine KGetR C ul_X5 rfl (by decide) 0 0 rfl (by decide) rfl u_fl_RX5_18 (hT.at0 0 6) (b := q 1) (hT.ptr 0 0 1) dX5_distance_19 (fun _ h => h) ?_
  refine KGetRN C ul_X3 rfl (by decide) 3 3 rfl (by decide) rfl n_fn_RX5_91 (hT.at0 1 4) (b := q 6) (hT.ptr 1 3 6) dX5_distance_22 (fun _ h => h) ?_
  refine KIload_n C dX5_distance_25 rfl 3 rfl ?_
  refine KIald  (v := zP z y) C 20 (hT.at0 6 20) (hT.ln0 6 20) ⟨by omega, by omega⟩ (by omega) (congrFun e6 _) dX5_distance_26 ?_
  have rb2 := hR.b (q 6) y (v := zP z y) (congrFun e6 _)
  refine KIstore (lv' := [(4, .int (iI (zP z y))), (3, .int (iI (zP z x))), (0, .ref (q 0)), (1, .int (iI x)), (2, .int (iI y))]) C dX5_distance_27 (by decide) rfl ?_
  refine KIload_n C dX5_distance_29 rfl 1 rfl ?_
  refine KIconst C dX5_distance_30 ?_
  refine KIcmp_eq (tgt := 40) C dX5_distance_31 (by decide) ⟨by omega, by omega⟩ ⟨by omega, by omega⟩ (fun c31 => ?_) (fun c31 => ?_)
  · refine KThrow (cls := "java/lang/IllegalStateException") (text := "a product is at no place") (ik := 77) (is := 98) (ic := 81) C hnt hne fit_java_lang_IllegalStateException u_cl_RX5_77 u_in_java_lang_IllegalStateException (show ∃ sa, vk_R RX5 98 "a product is at no place" sa sX from C.nws.2.2.2 (RX5, 98, "a product is at no place") s_RX5_98) (thr_words_RX5_81 C.words C.nws) (thr_good_RX5_81) (Nat.le_of_ble_eq_true rfl) (Nat.le_of_ble_eq_true rfl) ⟨Nat.le_of_ble_eq_true rfl, Nat.le_of_ble_eq_true rfl⟩ (by
      first | exact ⟨Or.inl ⟨(by unfold oDi; (repeat' split) <;> first | rfl | omega), rfl⟩, hCP⟩ | exact ⟨Or.inr ⟨(by unfold oDi; (repeat' split) <;> first | rfl | omega), rfl⟩, hCP⟩) ⟨Nat.le_of_ble_eq_true rfl, Nat.le_of_ble_eq_true rfl⟩ dX5_distance_40 dX5_distance_43 dX5_distance_44 dX5_distance_46 dX5_distance_49
  · refine KIload C dX5_distance_34 0 rfl ?_
    refine KIconst C dX5_distance_36 ?_
    refine KIcmp_ne (tgt := 50) C dX5_distance_37 (by decide) ⟨by omega, by omega⟩ ⟨by omega, by omega⟩ (fun c37 => ?_) (fun c37 => ?_)
    · refine KAload_n C dX5_distance_50 rfl 2 rfl ?_
      refine KGetR C ul_X5 rfl (by decide) 0 0 rfl (by decide) rfl u_fl_RX5_18 (hT.at0 0 6) (b := q 1) (hT.ptr 0 0 1) dX5_distance_51 (fun _ h => h) ?_
      refine KIload_n C dX5_distance_54 rfl 1 rfl ?_
      refine KIload C dX5_distance_55 0 rfl ?_
      refine KCallV (As := [.int (iI (zP z x)), .int (iI (zP z y))]) (b := q 1) (st := []) C (ct_X3_between l g S q (zP z x) (zP z y) hT hCf (by omega) (by omega)) u_ml_RX5_100 u_im_yX3_between u_se_yX3_between u_in_RX3 u_co_yX3_between hd_yX3_between (hT.at0 1 4) (by decide) rfl rfl ⟨Nat.le_of_ble_eq_true rfl, Nat.le_of_ble_eq_true rfl⟩ ⟨Nat.le_of_ble_eq_true rfl, Nat.le_of_ble_eq_true rfl⟩ (Nat.le_of_ble_eq_true rfl) dX5_distance_57 rfl (fun v57 u57 hp57 => ?_)
      obtain ⟨rfl, rfl⟩ := hp57
      refine KSt (st2 := [.int (iI (dst (sI S (q 1) 1) (sI S (q 1) 2) (zP z x) (zP z y)))]) rfl ?_
      refine KTop (congrArg iI (show dst (sI S (q 1) 1) (sI S (q 1) 2) (zP z x) (zP z y) = dst (zN z) (zG z) (zP z x) (zP z y) from (by rw [e11, e12]))) ?_
      refine KX ?_
      refine KIret C rfl rfl (by
        exact ⟨_, _, (by unfold oDi; (repeat' split) <;> first | rfl | omega), rfl, hCP⟩) (by decide) (by decide) dX5_distance_60
    · refine KThrow (cls := "java/lang/IllegalStateException") (text := "a product is at no place") (ik := 77) (is := 98) (ic := 81) C hnt hne fit_java_lang_IllegalStateException u_cl_RX5_77 u_in_java_lang_IllegalStateException (show ∃ sa, vk_R RX5 98 "a product is at no place" sa sX from C.nws.2.2.2 (RX5, 98, "a product is at no place") s_RX5_98) (thr_words_RX5_81 C.words C.nws) (thr_good_RX5_81) (Nat.le_of_ble_eq_true rfl) (Nat.le_of_ble_eq_true rfl) ⟨Nat.le_of_ble_eq_true rfl, Nat.le_of_ble_eq_true rfl⟩ (by
        first | exact ⟨Or.inl ⟨(by unfold oDi; (repeat' split) <;> first | rfl | omega), rfl⟩, hCP⟩ | exact ⟨Or.inr ⟨(by unfold oDi; (repeat' split) <;> first | rfl | omega), rfl⟩, hCP⟩) ⟨Nat.le_of_ble_eq_true rfl, Nat.le_of_ble_eq_true rfl⟩ dX5_distance_40 dX5_distance_43 dX5_distance_44 dX5_distance_46 dX5_distance_49
def P_X5_orders (S : Sto) (q : Nat → Nat) (w : Shp) (z : Sig) : Option Value → Sto → Prop := fun v u => v = some (.int (iI (zo z : Int))) ∧ S = u
set_option maxRecDepth 100000 in
set_option maxHeartbeats 4000000 in
theorem ct_X5_orders (l : Launch) (g : GG) (S : Sto) (q : Nat → Nat) (w : Shp) (z : Sig) (hT : Top S q) (hCw : CRw S q (gT g) w z) : MetS l g yX5_orders cX5_orders 1 (some FieldType.int) 2 0 0 [.ref (q 0)] S (P_X5_orders S q w z) := by
  refine MetS.of (own := RX5) (lv := [(0, .ref (q 0))]) (by decide) rfl (Nat.le_of_ble_eq_true rfl) rfl ?_
  intro pX eX sX mX argsX belowX methX cX C hin
  refine KRg (fun hR => ?_)
  obtain ⟨hWh, hBk, hOr, hBt, hBV, hRt, hz⟩ := id hCw
  have hn4 := hBk.1.2.2.2.1
  have hn40 := hBk.1.2.2.2.2.1
  refine KAload_n C dX5_orders_0 rfl 0 rfl ?_
  refine KGetR C ul_X5 rfl (by decide) 3 3 rfl (by decide) rfl u_fl_RX5_43 (hT.at0 0 6) (b := q 4) (hT.ptr 0 3 4) dX5_orders_1 (fun _ h => h) ?_
  refine KCallV (As := []) (b := q 4) (st := []) C (ct_Jx4a65c_size_8abf5 l g S (q 4) (w4 w) (k4 w) (zo z) hBk.1) u_ml_RX5_106 u_im_yJx4a65c_size_8abf5 u_se_yJx4a65c_size_8abf5 u_in_RJx4a65c u_co_yJx4a65c_size_8abf5 hd_yJx4a65c_size_8abf5 (hT.at0 4 0) (by decide) rfl rfl ⟨Nat.le_of_ble_eq_true rfl, Nat.le_of_ble_eq_true rfl⟩ ⟨Nat.le_of_ble_eq_true rfl, Nat.le_of_ble_eq_true rfl⟩ (Nat.le_of_ble_eq_true rfl) dX5_orders_4 rfl (fun v4 u4 hp4 => ?_)
  obtain ⟨rfl, rfl⟩ := hp4
  refine KSt (st2 := [.int (iI ((zo z) : Int))]) rfl ?_
  refine KIret C rfl rfl (by
    exact ⟨rfl, rfl⟩) (by decide) (by decide) dX5_orders_7
def P_X5_batches (S : Sto) (q : Nat → Nat) (w : Shp) (z : Sig) : Option Value → Sto → Prop := fun v u => v = some (.int (iI (zb z : Int))) ∧ S = u
set_option maxRecDepth 100000 in
set_option maxHeartbeats 4000000 in
theorem ct_X5_batches (l : Launch) (g : GG) (S : Sto) (q : Nat → Nat) (w : Shp) (z : Sig) (hT : Top S q) (hCw : CRw S q (gT g) w z) : MetS l g yX5_batches cX5_batches 1 (some FieldType.int) 3 0 0 [.ref (q 0)] S (P_X5_batches S q w z) := by
  refine MetS.of (own := RX5) (lv := [(0, .ref (q 0))]) (by decide) rfl (Nat.le_of_ble_eq_true rfl) rfl ?_
  intro pX eX sX mX argsX belowX methX cX C hin
  refine KRg (fun hR => ?_)
  obtain ⟨hWh, hBk, hOr, hBt, hBV, hRt, hz⟩ := id hCw
  have hn5 := hBt.1.2.2.2.1
  have hn60 := hBt.1.2.2.2.2.1
  refine KAload_n C dX5_batches_0 rfl 0 rfl ?_
  refine KGetR C ul_X5 rfl (by decide) 2 2 rfl (by decide) rfl u_fl_RX5_36 (hT.at0 0 6) (b := q 3) (hT.ptr 0 2 3) dX5_batches_1 (fun _ h => h) ?_
  refine KCallV (As := []) (b := q 3) (st := []) C (ct_X4_size l g S q w (zb z) hT hBt) u_ml_RX5_179 u_im_yX4_size u_se_yX4_size u_in_RX4 u_co_yX4_size hd_yX4_size (hT.at0 3 5) (by decide) rfl rfl ⟨Nat.le_of_ble_eq_true rfl, Nat.le_of_ble_eq_true rfl⟩ ⟨Nat.le_of_ble_eq_true rfl, Nat.le_of_ble_eq_true rfl⟩ (Nat.le_of_ble_eq_true rfl) dX5_batches_4 rfl (fun v4 u4 hp4 => ?_)
  obtain ⟨rfl, rfl⟩ := hp4
  refine KSt (st2 := [.int (iI ((zb z) : Int))]) rfl ?_
  refine KIret C rfl rfl (by
    exact ⟨rfl, rfl⟩) (by decide) (by decide) dX5_batches_7
def P_X5_walked (S : Sto) (q : Nat → Nat) (w : Shp) (z : Sig) : Option Value → Sto → Prop := fun v u => v = some (.int (iI (zw z))) ∧ S = u
set_option maxRecDepth 100000 in
set_option maxHeartbeats 4000000 in
theorem ct_X5_walked (l : Launch) (g : GG) (S : Sto) (q : Nat → Nat) (w : Shp) (z : Sig) (hT : Top S q) (hCw : CRw S q (gT g) w z) : MetS l g yX5_walked cX5_walked 1 (some FieldType.int) 1 0 0 [.ref (q 0)] S (P_X5_walked S q w z) := by
  refine MetS.of (own := RX5) (lv := [(0, .ref (q 0))]) (by decide) rfl (Nat.le_of_ble_eq_true rfl) rfl ?_
  intro pX eX sX mX argsX belowX methX cX C hin
  refine KRg (fun hR => ?_)
  obtain ⟨⟨e10, e11, e12, e6, e7, e04, e05, e06⟩, -⟩ := id hCw
  refine KAload_n C dX5_walked_0 rfl 0 rfl ?_
  refine KGetI C ul_X5 rfl (by decide) 5 5 rfl (by decide) rfl u_fl_RX5_193 (hT.at0 0 6) (v := zw z) e05 dX5_walked_1 (fun _ h => h) ?_
  have rb1 := hR.b (q 0) 5 (v := zw z) e05
  refine KIret C rfl rfl (by
    exact ⟨rfl, rfl⟩) (by decide) (by decide) dX5_walked_4
def P_X5_stateOf (S : Sto) (q : Nat → Nat) (x : Int) (z : Sig) (tt : Nat) : Option Value → Sto → Prop := fun v u => ∃ r z', oSt z x = (0, r, z') ∧ v = some (.int (iI r)) ∧ CP S q tt u z'
def T_X5_stateOf (S : Sto) (q : Nat → Nat) (x : Int) (z : Sig) (tt : Nat) : String → Sto → Prop := fun E u => ((oSt z x = (1, 0, z) ∧ E = "java/lang/IndexOutOfBoundsException")) ∧ CP S q tt u z
set_option maxRecDepth 100000 in
set_option maxHeartbeats 4000000 in
theorem ct_X5_stateOf (l : Launch) (g : GG) (hnt : l.stackTraces = false) (S : Sto) (q : Nat → Nat) (x : Int) (z : Sig) (hT : Top S q) (hW : Wf z) (hCR : CR S q (gT g) z) (hix : inR x) (tt : Nat) (htt : tt = gT g) : MetX l g yX5_stateOf cX5_stateOf 2 (some FieldType.int) 7 1 6 [.ref (q 0), .int (iI x)] S (P_X5_stateOf S q x z tt) (T_X5_stateOf S q x z tt) := by
  refine MetX.of (own := RX5) (lv := [(0, .ref (q 0)), (1, .int (iI x))]) (by decide) rfl (Nat.le_of_ble_eq_true rfl) rfl ?_
  intro pX eX sX mX argsX belowX methX cX C hne
  refine KRg (fun hR => ?_)
  obtain ⟨x1, x2⟩ := id hix
  obtain ⟨w, hCw⟩ := hCR
  obtain ⟨hWh, hBk, hOr, hBt, hBV, hRt, hz⟩ := id hCw
  obtain ⟨e10, e11, e12, e6, e7, e04, e05, e06⟩ := id hWh
  have hC := hW.1
  have hCf : Cf S q := ⟨by omega, by omega, by omega, by omega, by omega, by omega⟩
  have hn4 := hBk.1.2.2.2.1
  have hn40 := hBk.1.2.2.2.2.1
  have hn5 := hBt.1.2.2.2.1
  have hn60 := hBt.1.2.2.2.2.1
  have ho40 := hW.2.1
  have hCP : CP S q tt S z := by rw [htt]; exact CP.refl hT ⟨w, hCw⟩
  refine KAload_n C dX5_stateOf_0 rfl 0 rfl ?_
  refine KIload_n C dX5_stateOf_1 rfl 1 rfl ?_
  refine KCallVX (As := [.int (iI x)]) (b := q 0) (st := []) C (ct_X5_orderNumbered l g hnt S q x w (zo z) hT hBk (⟨by omega, by omega⟩)) hne (fun E u ⟨h1, h2, h3⟩ => by subst h3; exact ⟨⟨(by unfold oSt; (repeat' split) <;> first | rfl | omega), h1⟩, hCP⟩) ⟨Nat.le_of_ble_eq_true rfl, Nat.le_of_ble_eq_true rfl⟩ u_ml_RX5_119 u_im_yX5_orderNumbered u_se_yX5_orderNumbered u_in_RX5 u_co_yX5_orderNumbered hd_yX5_orderNumbered (hT.at0 0 6) (by decide) rfl rfl ⟨Nat.le_of_ble_eq_true rfl, Nat.le_of_ble_eq_true rfl⟩ ⟨Nat.le_of_ble_eq_true rfl, Nat.le_of_ble_eq_true rfl⟩ (Nat.le_of_ble_eq_true rfl) dX5_stateOf_2 rfl (fun v2 u2 hp2 => ?_)
  obtain ⟨o2, ho2, hon2, rfl, rfl⟩ := hp2
  refine KSt (st2 := [.ref (wo w o2)]) rfl ?_
  have hz9 : x.toNat = o2 := by omega
  refine KGetIN C ul_X1 rfl (by decide) 3 3 rfl (by decide) rfl n_fn_RX5_144 (hBk.2.1 o2 (by omega)).2.1 (v := zst z x) ((hOr o2 hon2).2.2.1.trans (by rw [ho2])) dX5_stateOf_5 (fun _ h => h) ?_
  have rb1 := hR.b (wo w o2) 3 (v := zst z x) ((hOr o2 hon2).2.2.1.trans (by rw [ho2]))
  refine KX ?_
  refine KIret C rfl rfl (by
    exact ⟨_, _, (by unfold oSt; (repeat' split) <;> first | rfl | omega), rfl, hCP⟩) (by decide) (by decide) dX5_stateOf_8
def P_X5_lengthAlone (S : Sto) (q : Nat → Nat) (x : Int) (z : Sig) (tt : Nat) : Option Value → Sto → Prop := fun v u => ∃ r z', oLa z x = (0, r, z') ∧ v = some (.int (iI r)) ∧ CP S q tt u z'
def T_X5_lengthAlone (S : Sto) (q : Nat → Nat) (x : Int) (z : Sig) (tt : Nat) : String → Sto → Prop := fun E u => ((oLa z x = (1, 0, z) ∧ E = "java/lang/IndexOutOfBoundsException")) ∧ CP S q tt u z
set_option maxRecDepth 100000 in
set_option maxHeartbeats 4000000 in
theorem ct_X5_lengthAlone (l : Launch) (g : GG) (hnt : l.stackTraces = false) (S : Sto) (q : Nat → Nat) (x : Int) (z : Sig) (hT : Top S q) (hW : Wf z) (hCR : CR S q (gT g) z) (hix : inR x) (tt : Nat) (htt : tt = gT g) : MetX l g yX5_lengthAlone cX5_lengthAlone 2 (some FieldType.int) 7 1 6 [.ref (q 0), .int (iI x)] S (P_X5_lengthAlone S q x z tt) (T_X5_lengthAlone S q x z tt) := by
  refine MetX.of (own := RX5) (lv := [(0, .ref (q 0)), (1, .int (iI x))]) (by decide) rfl (Nat.le_of_ble_eq_true rfl) rfl ?_
  intro pX eX sX mX argsX belowX methX cX C hne
  refine KRg (fun hR => ?_)
  obtain ⟨x1, x2⟩ := id hix
  obtain ⟨w, hCw⟩ := hCR
  obtain ⟨hWh, hBk, hOr, hBt, hBV, hRt, hz⟩ := id hCw
  obtain ⟨e10, e11, e12, e6, e7, e04, e05, e06⟩ := id hWh
  have hC := hW.1
  have hCf : Cf S q := ⟨by omega, by omega, by omega, by omega, by omega, by omega⟩
  have hn4 := hBk.1.2.2.2.1
  have hn40 := hBk.1.2.2.2.2.1
  have hn5 := hBt.1.2.2.2.1
  have hn60 := hBt.1.2.2.2.2.1
  have ho40 := hW.2.1
  have hCP : CP S q tt S z := by rw [htt]; exact CP.refl hT ⟨w, hCw⟩
  refine KAload_n C dX5_lengthAlone_0 rfl 0 rfl ?_
  refine KGetR C ul_X5 rfl (by decide) 1 1 rfl (by decide) rfl u_fl_RX5_27 (hT.at0 0 6) (b := q 2) (hT.ptr 0 1 2) dX5_lengthAlone_1 (fun _ h => h) ?_
  refine KAload_n C dX5_lengthAlone_4 rfl 0 rfl ?_
  refine KIload_n C dX5_lengthAlone_5 rfl 1 rfl ?_
  refine KCallVX (As := [.int (iI x)]) (b := q 0) (st := [.ref (q 2)]) C (ct_X5_orderNumbered l g hnt S q x w (zo z) hT hBk (⟨by omega, by omega⟩)) hne (fun E u ⟨h1, h2, h3⟩ => by subst h3; exact ⟨⟨(by unfold oLa; (repeat' split) <;> first | rfl | omega), h1⟩, hCP⟩) ⟨Nat.le_of_ble_eq_true rfl, Nat.le_of_ble_eq_true rfl⟩ u_ml_RX5_119 u_im_yX5_orderNumbered u_se_yX5_orderNumbered u_in_RX5 u_co_yX5_orderNumbered hd_yX5_orderNumbered (hT.at0 0 6) (by decide) rfl rfl ⟨Nat.le_of_ble_eq_true rfl, Nat.le_of_ble_eq_true rfl⟩ ⟨Nat.le_of_ble_eq_true rfl, Nat.le_of_ble_eq_true rfl⟩ (Nat.le_of_ble_eq_true rfl) dX5_lengthAlone_6 rfl (fun v6 u6 hp6 => ?_)
  obtain ⟨o6, ho6, hon6, rfl, rfl⟩ := hp6
  refine KSt (st2 := [.ref (wo w o6), .ref (q 2)]) rfl ?_
  have hz9 : x.toNat = o6 := by omega
  refine KGetIN C ul_X1 rfl (by decide) 2 2 rfl (by decide) rfl n_fn_RX5_147 (hBk.2.1 o6 (by omega)).2.1 (v := ((zW z o6 : Nat) : Int)) (hOr o6 hon6).2.1 dX5_lengthAlone_9 (fun _ h => h) ?_
  refine KCallV (As := [.int (iI ((zW z o6 : Nat) : Int))]) (b := q 2) (st := []) C (ct_X2_leastLength l g S q (zW z o6) hT hCf (by rw [e11, e6]; exact hW.okW hon6) hz) u_ml_RX5_150 u_im_yX2_leastLength u_se_yX2_leastLength u_in_RX2 u_co_yX2_leastLength hd_yX2_leastLength (hT.at0 2 3) (by decide) rfl rfl ⟨Nat.le_of_ble_eq_true rfl, Nat.le_of_ble_eq_true rfl⟩ ⟨Nat.le_of_ble_eq_true rfl, Nat.le_of_ble_eq_true rfl⟩ (Nat.le_of_ble_eq_true rfl) dX5_lengthAlone_12 rfl (fun v12 u12 hp12 => ?_)
  obtain ⟨rfl, f12, rfl, hK12⟩ := hp12
  refine KSt (st2 := [.int (iI (tour (sI S (q 1) 1) (sI S (q 1) 2) (sI S (q 6)) (zW z o6)))]) rfl ?_
  refine KRg (fun hR => ?_)
  refine KTop (congrArg iI (show tour (sI S (q 1) 1) (sI S (q 1) 2) (sI S (q 6)) (zW z o6) = zto z (zW z x.toNat) from (by rw [e11, e12, e6, hz9]; rfl))) ?_
  have hCK : CP S q tt (wI S f12) z := by rw [htt]; exact CP.kept hT ⟨w, hCw⟩ hK12
  refine KX ?_
  refine KIret C rfl rfl (by
    exact ⟨_, _, (by unfold oLa; (repeat' split) <;> first | rfl | omega), rfl, hCK⟩) (by decide) (by decide) dX5_lengthAlone_15
def P_X5_batchOf (S : Sto) (q : Nat → Nat) (x : Int) (z : Sig) (tt : Nat) : Option Value → Sto → Prop := fun v u => ∃ r z', oBt z x = (0, r, z') ∧ v = some (.int (iI r)) ∧ CP S q tt u z'
def T_X5_batchOf (S : Sto) (q : Nat → Nat) (x : Int) (z : Sig) (tt : Nat) : String → Sto → Prop := fun E u => ((oBt z x = (1, 0, z) ∧ E = "java/lang/IndexOutOfBoundsException")) ∧ CP S q tt u z
set_option maxRecDepth 100000 in
set_option maxHeartbeats 4000000 in
theorem ct_X5_batchOf (l : Launch) (g : GG) (hnt : l.stackTraces = false) (S : Sto) (q : Nat → Nat) (x : Int) (z : Sig) (hT : Top S q) (hW : Wf z) (hCR : CR S q (gT g) z) (hix : inR x) (tt : Nat) (htt : tt = gT g) : MetX l g yX5_batchOf cX5_batchOf 2 (some FieldType.int) 7 1 6 [.ref (q 0), .int (iI x)] S (P_X5_batchOf S q x z tt) (T_X5_batchOf S q x z tt) := by
  refine MetX.of (own := RX5) (lv := [(0, .ref (q 0)), (1, .int (iI x))]) (by decide) rfl (Nat.le_of_ble_eq_true rfl) rfl ?_
  intro pX eX sX mX argsX belowX methX cX C hne
  refine KRg (fun hR => ?_)
  obtain ⟨x1, x2⟩ := id hix
  obtain ⟨w, hCw⟩ := hCR
  obtain ⟨hWh, hBk, hOr, hBt, hBV, hRt, hz⟩ := id hCw
  obtain ⟨e10, e11, e12, e6, e7, e04, e05, e06⟩ := id hWh
  have hC := hW.1
  have hCf : Cf S q := ⟨by omega, by omega, by omega, by omega, by omega, by omega⟩
  have hn4 := hBk.1.2.2.2.1
  have hn40 := hBk.1.2.2.2.2.1
  have hn5 := hBt.1.2.2.2.1
  have hn60 := hBt.1.2.2.2.2.1
  have ho40 := hW.2.1
  have hCP : CP S q tt S z := by rw [htt]; exact CP.refl hT ⟨w, hCw⟩
  refine KAload_n C dX5_batchOf_0 rfl 0 rfl ?_
  refine KIload_n C dX5_batchOf_1 rfl 1 rfl ?_
  refine KCallVX (As := [.int (iI x)]) (b := q 0) (st := []) C (ct_X5_orderNumbered l g hnt S q x w (zo z) hT hBk (⟨by omega, by omega⟩)) hne (fun E u ⟨h1, h2, h3⟩ => by subst h3; exact ⟨⟨(by unfold oBt; (repeat' split) <;> first | rfl | omega), h1⟩, hCP⟩) ⟨Nat.le_of_ble_eq_true rfl, Nat.le_of_ble_eq_true rfl⟩ u_ml_RX5_119 u_im_yX5_orderNumbered u_se_yX5_orderNumbered u_in_RX5 u_co_yX5_orderNumbered hd_yX5_orderNumbered (hT.at0 0 6) (by decide) rfl rfl ⟨Nat.le_of_ble_eq_true rfl, Nat.le_of_ble_eq_true rfl⟩ ⟨Nat.le_of_ble_eq_true rfl, Nat.le_of_ble_eq_true rfl⟩ (Nat.le_of_ble_eq_true rfl) dX5_batchOf_2 rfl (fun v2 u2 hp2 => ?_)
  obtain ⟨o2, ho2, hon2, rfl, rfl⟩ := hp2
  refine KSt (st2 := [.ref (wo w o2)]) rfl ?_
  have hz9 : x.toNat = o2 := by omega
  refine KPop C dX5_batchOf_5 rfl ?_
  refine KAload_n C dX5_batchOf_6 rfl 0 rfl ?_
  refine KGetR C ul_X5 rfl (by decide) 2 2 rfl (by decide) rfl u_fl_RX5_36 (hT.at0 0 6) (b := q 3) (hT.ptr 0 2 3) dX5_batchOf_7 (fun _ h => h) ?_
  refine KIload_n C dX5_batchOf_10 rfl 1 rfl ?_
  refine KLvE (lv2 := [(0, .ref (q 0)), (1, .int (iI (o2 : Int)))]) (by rw [ho2]) ?_
  refine KTop (show iI x = iI (o2 : Int) by rw [ho2]) ?_
  refine KCallV (As := [.int (iI (o2 : Int))]) (b := q 3) (st := []) C (ct_X4_batchWith l g S q o2 w (zb z) z hT hBt hBV hW rfl (by omega)) u_ml_RX5_202 u_im_yX4_batchWith u_se_yX4_batchWith u_in_RX4 u_co_yX4_batchWith hd_yX4_batchWith (hT.at0 3 5) (by decide) rfl rfl ⟨Nat.le_of_ble_eq_true rfl, Nat.le_of_ble_eq_true rfl⟩ ⟨Nat.le_of_ble_eq_true rfl, Nat.le_of_ble_eq_true rfl⟩ (Nat.le_of_ble_eq_true rfl) dX5_batchOf_11 rfl (fun v11 u11 hp11 => ?_)
  obtain ⟨rfl, rfl⟩ := hp11
  refine KSt (st2 := [.int (iI (zbt z (o2 : Int)))]) rfl ?_
  refine KTop (congrArg iI (show zbt z (o2 : Int) = zbt z x from (by rw [ho2]))) ?_
  refine KX ?_
  refine KIret C rfl rfl (by
    exact ⟨_, _, (by unfold oBt; (repeat' split) <;> first | rfl | omega), rfl, hCP⟩) (by decide) (by decide) dX5_batchOf_14
def P_X5_linesOf (S : Sto) (q : Nat → Nat) (x : Int) (z : Sig) (tt : Nat) : Option Value → Sto → Prop := fun v u => ∃ r z', oLn z x = (0, r, z') ∧ v = some (.int (iI r)) ∧ CP S q tt u z'
def T_X5_linesOf (S : Sto) (q : Nat → Nat) (x : Int) (z : Sig) (tt : Nat) : String → Sto → Prop := fun E u => ((oLn z x = (1, 0, z) ∧ E = "java/lang/IndexOutOfBoundsException")) ∧ CP S q tt u z
set_option maxRecDepth 100000 in
set_option maxHeartbeats 4000000 in
theorem ct_X5_linesOf (l : Launch) (g : GG) (hnt : l.stackTraces = false) (S : Sto) (q : Nat → Nat) (x : Int) (z : Sig) (hT : Top S q) (hW : Wf z) (hCR : CR S q (gT g) z) (hix : inR x) (tt : Nat) (htt : tt = gT g) : MetX l g yX5_linesOf cX5_linesOf 2 (some FieldType.int) 7 1 6 [.ref (q 0), .int (iI x)] S (P_X5_linesOf S q x z tt) (T_X5_linesOf S q x z tt) := by
  refine MetX.of (own := RX5) (lv := [(0, .ref (q 0)), (1, .int (iI x))]) (by decide) rfl (Nat.le_of_ble_eq_true rfl) rfl ?_
  intro pX eX sX mX argsX belowX methX cX C hne
  refine KRg (fun hR => ?_)
  obtain ⟨x1, x2⟩ := id hix
  obtain ⟨w, hCw⟩ := hCR
  obtain ⟨hWh, hBk, hOr, hBt, hBV, hRt, hz⟩ := id hCw
  obtain ⟨e10, e11, e12, e6, e7, e04, e05, e06⟩ := id hWh
  have hC := hW.1
  have hCf : Cf S q := ⟨by omega, by omega, by omega, by omega, by omega, by omega⟩
  have hn4 := hBk.1.2.2.2.1
  have hn40 := hBk.1.2.2.2.2.1
  have hn5 := hBt.1.2.2.2.1
  have hn60 := hBt.1.2.2.2.2.1
  have ho40 := hW.2.1
  have hCP : CP S q tt S z := by rw [htt]; exact CP.refl hT ⟨w, hCw⟩
  refine KAload_n C dX5_linesOf_0 rfl 0 rfl ?_
  refine KIload_n C dX5_linesOf_1 rfl 1 rfl ?_
  refine KCallVX (As := [.int (iI x)]) (b := q 0) (st := []) C (ct_X5_batchNumbered l g hnt S q x w (zb z) hT hBt (⟨by omega, by omega⟩)) hne (fun E u ⟨h1, h2, h3⟩ => by subst h3; exact ⟨⟨(by unfold oLn; (repeat' split) <;> first | rfl | omega), h1⟩, hCP⟩) ⟨Nat.le_of_ble_eq_true rfl, Nat.le_of_ble_eq_true rfl⟩ u_ml_RX5_180 u_im_yX5_batchNumbered u_se_yX5_batchNumbered u_in_RX5 u_co_yX5_batchNumbered hd_yX5_batchNumbered (hT.at0 0 6) (by decide) rfl rfl ⟨Nat.le_of_ble_eq_true rfl, Nat.le_of_ble_eq_true rfl⟩ ⟨Nat.le_of_ble_eq_true rfl, Nat.le_of_ble_eq_true rfl⟩ (Nat.le_of_ble_eq_true rfl) dX5_linesOf_2 rfl (fun v2 u2 hp2 => ?_)
  obtain ⟨o2, ho2, hon2, rfl, rfl⟩ := hp2
  refine KSt (st2 := [.ref (wb w o2)]) rfl ?_
  refine KGetIN C ul_X0 rfl (by decide) 3 3 rfl (by decide) rfl n_fn_RX5_205 (hBt.2.1 o2 (by omega)).2 (v := zln z x) ((hBV.1 o2 hon2).2.2.1.trans (by rw [ho2])) dX5_linesOf_5 (fun _ h => h) ?_
  have rb1 := hR.b (wb w o2) 3 (v := zln z x) ((hBV.1 o2 hon2).2.2.1.trans (by rw [ho2]))
  refine KX ?_
  refine KIret C rfl rfl (by
    exact ⟨_, _, (by unfold oLn; (repeat' split) <;> first | rfl | omega), rfl, hCP⟩) (by decide) (by decide) dX5_linesOf_8
def P_X5_lengthOf (S : Sto) (q : Nat → Nat) (x : Int) (z : Sig) (tt : Nat) : Option Value → Sto → Prop := fun v u => ∃ r z', oLo z x = (0, r, z') ∧ v = some (.int (iI r)) ∧ CP S q tt u z'
def T_X5_lengthOf (S : Sto) (q : Nat → Nat) (x : Int) (z : Sig) (tt : Nat) : String → Sto → Prop := fun E u => ((oLo z x = (1, 0, z) ∧ E = "java/lang/IndexOutOfBoundsException")) ∧ CP S q tt u z
set_option maxRecDepth 100000 in
set_option maxHeartbeats 4000000 in
theorem ct_X5_lengthOf (l : Launch) (g : GG) (hnt : l.stackTraces = false) (S : Sto) (q : Nat → Nat) (x : Int) (z : Sig) (hT : Top S q) (hW : Wf z) (hCR : CR S q (gT g) z) (hix : inR x) (tt : Nat) (htt : tt = gT g) : MetX l g yX5_lengthOf cX5_lengthOf 2 (some FieldType.int) 7 1 6 [.ref (q 0), .int (iI x)] S (P_X5_lengthOf S q x z tt) (T_X5_lengthOf S q x z tt) := by
  refine MetX.of (own := RX5) (lv := [(0, .ref (q 0)), (1, .int (iI x))]) (by decide) rfl (Nat.le_of_ble_eq_true rfl) rfl ?_
  intro pX eX sX mX argsX belowX methX cX C hne
  refine KRg (fun hR => ?_)
  obtain ⟨x1, x2⟩ := id hix
  obtain ⟨w, hCw⟩ := hCR
  obtain ⟨hWh, hBk, hOr, hBt, hBV, hRt, hz⟩ := id hCw
  obtain ⟨e10, e11, e12, e6, e7, e04, e05, e06⟩ := id hWh
  have hC := hW.1
  have hCf : Cf S q := ⟨by omega, by omega, by omega, by omega, by omega, by omega⟩
  have hn4 := hBk.1.2.2.2.1
  have hn40 := hBk.1.2.2.2.2.1
  have hn5 := hBt.1.2.2.2.1
  have hn60 := hBt.1.2.2.2.2.1
  have ho40 := hW.2.1
  have hCP : CP S q tt S z := by rw [htt]; exact CP.refl hT ⟨w, hCw⟩
  refine KAload_n C dX5_lengthOf_0 rfl 0 rfl ?_
  refine KIload_n C dX5_lengthOf_1 rfl 1 rfl ?_
  refine KCallVX (As := [.int (iI x)]) (b := q 0) (st := []) C (ct_X5_batchNumbered l g hnt S q x w (zb z) hT hBt (⟨by omega, by omega⟩)) hne (fun E u ⟨h1, h2, h3⟩ => by subst h3; exact ⟨⟨(by unfold oLo; (repeat' split) <;> first | rfl | omega), h1⟩, hCP⟩) ⟨Nat.le_of_ble_eq_true rfl, Nat.le_of_ble_eq_true rfl⟩ u_ml_RX5_180 u_im_yX5_batchNumbered u_se_yX5_batchNumbered u_in_RX5 u_co_yX5_batchNumbered hd_yX5_batchNumbered (hT.at0 0 6) (by decide) rfl rfl ⟨Nat.le_of_ble_eq_true rfl, Nat.le_of_ble_eq_true rfl⟩ ⟨Nat.le_of_ble_eq_true rfl, Nat.le_of_ble_eq_true rfl⟩ (Nat.le_of_ble_eq_true rfl) dX5_lengthOf_2 rfl (fun v2 u2 hp2 => ?_)
  obtain ⟨o2, ho2, hon2, rfl, rfl⟩ := hp2
  refine KSt (st2 := [.ref (wb w o2)]) rfl ?_
  refine KGetIN C ul_X0 rfl (by decide) 4 4 rfl (by decide) rfl n_fn_RX5_196 (hBt.2.1 o2 (by omega)).2 (v := zto z (zpd z x)) ((hBV.1 o2 hon2).2.2.2.1.trans (by rw [ho2])) dX5_lengthOf_5 (fun _ h => h) ?_
  have rb1 := hR.b (wb w o2) 4 (v := zto z (zpd z x)) ((hBV.1 o2 hon2).2.2.2.1.trans (by rw [ho2]))
  refine KX ?_
  refine KIret C rfl rfl (by
    exact ⟨_, _, (by unfold oLo; (repeat' split) <;> first | rfl | omega), rfl, hCP⟩) (by decide) (by decide) dX5_lengthOf_8
def P_X5_stops (S : Sto) (q : Nat → Nat) (x : Int) (z : Sig) (tt : Nat) : Option Value → Sto → Prop := fun v u => ∃ r z', oSs z x = (0, r, z') ∧ v = some (.int (iI r)) ∧ CP S q tt u z'
def T_X5_stops (S : Sto) (q : Nat → Nat) (x : Int) (z : Sig) (tt : Nat) : String → Sto → Prop := fun E u => ((oSs z x = (1, 0, z) ∧ E = "java/lang/IndexOutOfBoundsException")) ∧ CP S q tt u z
set_option maxRecDepth 100000 in
set_option maxHeartbeats 4000000 in
theorem ct_X5_stops (l : Launch) (g : GG) (hnt : l.stackTraces = false) (S : Sto) (q : Nat → Nat) (x : Int) (z : Sig) (hT : Top S q) (hW : Wf z) (hCR : CR S q (gT g) z) (hix : inR x) (tt : Nat) (htt : tt = gT g) : MetX l g yX5_stops cX5_stops 2 (some FieldType.int) 7 1 6 [.ref (q 0), .int (iI x)] S (P_X5_stops S q x z tt) (T_X5_stops S q x z tt) := by
  refine MetX.of (own := RX5) (lv := [(0, .ref (q 0)), (1, .int (iI x))]) (by decide) rfl (Nat.le_of_ble_eq_true rfl) rfl ?_
  intro pX eX sX mX argsX belowX methX cX C hne
  refine KRg (fun hR => ?_)
  obtain ⟨x1, x2⟩ := id hix
  obtain ⟨w, hCw⟩ := hCR
  obtain ⟨hWh, hBk, hOr, hBt, hBV, hRt, hz⟩ := id hCw
  obtain ⟨e10, e11, e12, e6, e7, e04, e05, e06⟩ := id hWh
  have hC := hW.1
  have hCf : Cf S q := ⟨by omega, by omega, by omega, by omega, by omega, by omega⟩
  have hn4 := hBk.1.2.2.2.1
  have hn40 := hBk.1.2.2.2.2.1
  have hn5 := hBt.1.2.2.2.1
  have hn60 := hBt.1.2.2.2.2.1
  have ho40 := hW.2.1
  have hCP : CP S q tt S z := by rw [htt]; exact CP.refl hT ⟨w, hCw⟩
  refine KAload_n C dX5_stops_0 rfl 0 rfl ?_
  refine KIload_n C dX5_stops_1 rfl 1 rfl ?_
  refine KCallVX (As := [.int (iI x)]) (b := q 0) (st := []) C (ct_X5_batchNumbered l g hnt S q x w (zb z) hT hBt (⟨by omega, by omega⟩)) hne (fun E u ⟨h1, h2, h3⟩ => by subst h3; exact ⟨⟨(by unfold oSs; (repeat' split) <;> first | rfl | omega), h1⟩, hCP⟩) ⟨Nat.le_of_ble_eq_true rfl, Nat.le_of_ble_eq_true rfl⟩ u_ml_RX5_180 u_im_yX5_batchNumbered u_se_yX5_batchNumbered u_in_RX5 u_co_yX5_batchNumbered hd_yX5_batchNumbered (hT.at0 0 6) (by decide) rfl rfl ⟨Nat.le_of_ble_eq_true rfl, Nat.le_of_ble_eq_true rfl⟩ ⟨Nat.le_of_ble_eq_true rfl, Nat.le_of_ble_eq_true rfl⟩ (Nat.le_of_ble_eq_true rfl) dX5_stops_2 rfl (fun v2 u2 hp2 => ?_)
  obtain ⟨o2, ho2, hon2, rfl, rfl⟩ := hp2
  refine KSt (st2 := [.ref (wb w o2)]) rfl ?_
  obtain ⟨r1, r2, r3, r4, r5, r6⟩ := hRt o2 hon2
  have hokb := hW.okB (hW.lnB hon2)
  have hcb := hokb.2.1
  rw [← ho2] at r3 r4 hokb hcb
  refine KGetRN C ul_X0 rfl (by decide) 5 5 rfl (by decide) rfl n_fn_RX5_208 (hBt.2.1 o2 (by omega)).2 (b := wr w o2) r1 dX5_stops_5 (fun _ h => h) ?_
  refine KAlenI C (cntb (zpd z x) 20) r2 r3 dX5_stops_8 ?_
  refine KX ?_
  refine KIret C rfl rfl (by
    exact ⟨_, _, (by unfold oSs; (repeat' split) <;> first | rfl | omega), rfl, hCP⟩) (by decide) (by decide) dX5_stops_9
def P_X5_lengthByTrying (S : Sto) (q : Nat → Nat) (x : Int) (z : Sig) (tt : Nat) : Option Value → Sto → Prop := fun v u => ∃ r z', oLt z x = (0, r, z') ∧ v = some (.int (iI r)) ∧ CP S q tt u z'
def T_X5_lengthByTrying (S : Sto) (q : Nat → Nat) (x : Int) (z : Sig) (tt : Nat) : String → Sto → Prop := fun E u => ((oLt z x = (1, 0, z) ∧ E = "java/lang/IndexOutOfBoundsException") ∨ (oLt z x = (2, 0, z) ∧ E = "java/lang/IllegalStateException")) ∧ CP S q tt u z
set_option maxRecDepth 100000 in
set_option maxHeartbeats 4000000 in
theorem ct_X5_lengthByTrying (l : Launch) (g : GG) (hnt : l.stackTraces = false) (S : Sto) (q : Nat → Nat) (x : Int) (z : Sig) (hT : Top S q) (hW : Wf z) (hCR : CR S q (gT g) z) (hix : inR x) (tt : Nat) (htt : tt = gT g) : MetX l g yX5_lengthByTrying cX5_lengthByTrying 3 (some FieldType.int) 14 2 12 [.ref (q 0), .int (iI x)] S (P_X5_lengthByTrying S q x z tt) (T_X5_lengthByTrying S q x z tt) := by
  refine MetX.of (own := RX5) (lv := [(0, .ref (q 0)), (1, .int (iI x))]) (by decide) rfl (Nat.le_of_ble_eq_true rfl) rfl ?_
  intro pX eX sX mX argsX belowX methX cX C hne
  refine KRg (fun hR => ?_)
  obtain ⟨x1, x2⟩ := id hix
  obtain ⟨w, hCw⟩ := hCR
  obtain ⟨hWh, hBk, hOr, hBt, hBV, hRt, hz⟩ := id hCw
  obtain ⟨e10, e11, e12, e6, e7, e04, e05, e06⟩ := id hWh
  have hC := hW.1
  have hCf : Cf S q := ⟨by omega, by omega, by omega, by omega, by omega, by omega⟩
  have hn4 := hBk.1.2.2.2.1
  have hn40 := hBk.1.2.2.2.2.1
  have hn5 := hBt.1.2.2.2.1
  have hn60 := hBt.1.2.2.2.2.1
  have ho40 := hW.2.1
  have hCP : CP S q tt S z := by rw [htt]; exact CP.refl hT ⟨w, hCw⟩
  refine KAload_n C dX5_lengthByTrying_0 rfl 0 rfl ?_
  refine KIload_n C dX5_lengthByTrying_1 rfl 1 rfl ?_
  refine KCallVX (As := [.int (iI x)]) (b := q 0) (st := []) C (ct_X5_batchNumbered l g hnt S q x w (zb z) hT hBt (⟨by omega, by omega⟩)) hne (fun E u ⟨h1, h2, h3⟩ => by subst h3; exact ⟨Or.inl ⟨(by unfold oLt; (repeat' split) <;> first | rfl | omega), h1⟩, hCP⟩) ⟨Nat.le_of_ble_eq_true rfl, Nat.le_of_ble_eq_true rfl⟩ u_ml_RX5_180 u_im_yX5_batchNumbered u_se_yX5_batchNumbered u_in_RX5 u_co_yX5_batchNumbered hd_yX5_batchNumbered (hT.at0 0 6) (by decide) rfl rfl ⟨Nat.le_of_ble_eq_true rfl, Nat.le_of_ble_eq_true rfl⟩ ⟨Nat.le_of_ble_eq_true rfl, Nat.le_of_ble_eq_true rfl⟩ (Nat.le_of_ble_eq_true rfl) dX5_lengthByTrying_2 rfl (fun v2 u2 hp2 => ?_)
  obtain ⟨o2, ho2, hon2, rfl, rfl⟩ := hp2
  refine KSt (st2 := [.ref (wb w o2)]) rfl ?_
  obtain ⟨r1, r2, r3, r4, r5, r6⟩ := hRt o2 hon2
  have hokb := hW.okB (hW.lnB hon2)
  have hcb := hokb.2.1
  rw [← ho2] at r3 r4 hokb hcb
  refine KAstore_n (lv' := [(2, .ref (wb w o2)), (0, .ref (q 0)), (1, .int (iI x))]) C dX5_lengthByTrying_5 rfl (by decide) rfl ?_
  refine KAload_n C dX5_lengthByTrying_6 rfl 0 rfl ?_
  refine KGetRN C ul_X0 rfl (by decide) 5 5 rfl (by decide) rfl n_fn_RX5_208 (hBt.2.1 o2 (by omega)).2 (b := wr w o2) r1 dX5_lengthByTrying_7 (fun _ h => h) ?_
  refine KAlenI C (cntb (zpd z x) 20) r2 r3 dX5_lengthByTrying_10 ?_
  refine KBipush C dX5_lengthByTrying_11 (by decide) ?_
  refine KIcmp_le (tgt := 26) C dX5_lengthByTrying_13 (by decide) ⟨by omega, by omega⟩ ⟨by omega, by omega⟩ (fun c13 => ?_) (fun c13 => ?_)
  · refine KAload_n C dX5_lengthByTrying_26 rfl 1 rfl ?_
    refine KGetR C ul_X5 rfl (by decide) 1 1 rfl (by decide) rfl u_fl_RX5_27 (hT.at0 0 6) (b := q 2) (hT.ptr 0 1 2) dX5_lengthByTrying_27 (fun _ h => h) ?_
    refine KAload_n C dX5_lengthByTrying_30 rfl 0 rfl ?_
    refine KGetIN C ul_X0 rfl (by decide) 2 2 rfl (by decide) rfl n_fn_RX5_213 (hBt.2.1 o2 (by omega)).2 (v := ((zpd z x : Nat) : Int)) ((hBV.1 o2 hon2).2.1.trans (by rw [ho2])) dX5_lengthByTrying_31 (fun _ h => h) ?_
    refine KCallV (As := [.int (iI ((zpd z x : Nat) : Int))]) (b := q 2) (st := []) C (ct_X2_leastByTrying l g S q (zpd z x) hT hCf (by rw [e11, e6]; exact hokb) hz (by rw [sl_len]; omega)) u_ml_RX5_214 u_im_yX2_leastByTrying u_se_yX2_leastByTrying u_in_RX2 u_co_yX2_leastByTrying hd_yX2_leastByTrying (hT.at0 2 3) (by decide) rfl rfl ⟨Nat.le_of_ble_eq_true rfl, Nat.le_of_ble_eq_true rfl⟩ ⟨Nat.le_of_ble_eq_true rfl, Nat.le_of_ble_eq_true rfl⟩ (Nat.le_of_ble_eq_true rfl) dX5_lengthByTrying_34 rfl (fun v34 u34 hp34 => ?_)
    obtain ⟨rfl, f34, rfl, hK34⟩ := hp34
    refine KSt (st2 := [.int (iI (tour (sI S (q 1) 1) (sI S (q 1) 2) (sI S (q 6)) (zpd z x)))]) rfl ?_
    refine KRg (fun hR => ?_)
    refine KTop (congrArg iI (show tour (sI S (q 1) 1) (sI S (q 1) 2) (sI S (q 6)) (zpd z x) = zto z (zpd z x) from (by rw [e11, e12, e6]; rfl))) ?_
    have hCK : CP S q tt (wI S f34) z := by rw [htt]; exact CP.kept hT ⟨w, hCw⟩ hK34
    refine KX ?_
    refine KIret C rfl rfl (by
      exact ⟨_, _, (by unfold oLt; (repeat' split) <;> first | rfl | omega), rfl, hCK⟩) (by decide) (by decide) dX5_lengthByTrying_37
  · refine KThrow (cls := "java/lang/IllegalStateException") (text := "too many places to try") (ik := 77) (is := 211) (ic := 81) C hnt hne fit_java_lang_IllegalStateException u_cl_RX5_77 u_in_java_lang_IllegalStateException (show ∃ sa, vk_R RX5 211 "too many places to try" sa sX from C.nws.2.2.2 (RX5, 211, "too many places to try") s_RX5_211) (thr_words_RX5_81 C.words C.nws) (thr_good_RX5_81) (Nat.le_of_ble_eq_true rfl) (Nat.le_of_ble_eq_true rfl) ⟨Nat.le_of_ble_eq_true rfl, Nat.le_of_ble_eq_true rfl⟩ (by
      first | exact ⟨Or.inl ⟨(by unfold oLt; (repeat' split) <;> first | rfl | omega), rfl⟩, hCP⟩ | exact ⟨Or.inr ⟨(by unfold oLt; (repeat' split) <;> first | rfl | omega), rfl⟩, hCP⟩) ⟨Nat.le_of_ble_eq_true rfl, Nat.le_of_ble_eq_true rfl⟩ dX5_lengthByTrying_16 dX5_lengthByTrying_19 dX5_lengthByTrying_20 dX5_lengthByTrying_22 dX5_lengthByTrying_25
def P_X5_lengthThrough (S : Sto) (q : Nat → Nat) (x : Int) (z : Sig) (tt : Nat) : Option Value → Sto → Prop := fun v u => ∃ r z', oTh z x = (0, r, z') ∧ v = some (.int (iI r)) ∧ CP S q tt u z'
def T_X5_lengthThrough (S : Sto) (q : Nat → Nat) (x : Int) (z : Sig) (tt : Nat) : String → Sto → Prop := fun E u => ((oTh z x = (1, 0, z) ∧ E = "java/lang/IndexOutOfBoundsException")) ∧ CP S q tt u z
set_option maxRecDepth 100000 in
set_option maxHeartbeats 4000000 in
theorem ct_X5_lengthThrough (l : Launch) (g : GG) (hnt : l.stackTraces = false) (S : Sto) (q : Nat → Nat) (x : Int) (z : Sig) (hT : Top S q) (hW : Wf z) (hCR : CR S q (gT g) z) (hix : inR x) (tt : Nat) (htt : tt = gT g) : MetX l g yX5_lengthThrough cX5_lengthThrough 2 (some FieldType.int) 7 1 6 [.ref (q 0), .int (iI x)] S (P_X5_lengthThrough S q x z tt) (T_X5_lengthThrough S q x z tt) := by
  refine MetX.of (own := RX5) (lv := [(0, .ref (q 0)), (1, .int (iI x))]) (by decide) rfl (Nat.le_of_ble_eq_true rfl) rfl ?_
  intro pX eX sX mX argsX belowX methX cX C hne
  refine KRg (fun hR => ?_)
  obtain ⟨x1, x2⟩ := id hix
  obtain ⟨w, hCw⟩ := hCR
  obtain ⟨hWh, hBk, hOr, hBt, hBV, hRt, hz⟩ := id hCw
  obtain ⟨e10, e11, e12, e6, e7, e04, e05, e06⟩ := id hWh
  have hC := hW.1
  have hCf : Cf S q := ⟨by omega, by omega, by omega, by omega, by omega, by omega⟩
  have hn4 := hBk.1.2.2.2.1
  have hn40 := hBk.1.2.2.2.2.1
  have hn5 := hBt.1.2.2.2.1
  have hn60 := hBt.1.2.2.2.2.1
  have ho40 := hW.2.1
  have hCP : CP S q tt S z := by rw [htt]; exact CP.refl hT ⟨w, hCw⟩
  refine KAload_n C dX5_lengthThrough_0 rfl 0 rfl ?_
  refine KGetR C ul_X5 rfl (by decide) 1 1 rfl (by decide) rfl u_fl_RX5_27 (hT.at0 0 6) (b := q 2) (hT.ptr 0 1 2) dX5_lengthThrough_1 (fun _ h => h) ?_
  refine KAload_n C dX5_lengthThrough_4 rfl 0 rfl ?_
  refine KIload_n C dX5_lengthThrough_5 rfl 1 rfl ?_
  refine KCallVX (As := [.int (iI x)]) (b := q 0) (st := [.ref (q 2)]) C (ct_X5_batchNumbered l g hnt S q x w (zb z) hT hBt (⟨by omega, by omega⟩)) hne (fun E u ⟨h1, h2, h3⟩ => by subst h3; exact ⟨⟨(by unfold oTh; (repeat' split) <;> first | rfl | omega), h1⟩, hCP⟩) ⟨Nat.le_of_ble_eq_true rfl, Nat.le_of_ble_eq_true rfl⟩ u_ml_RX5_180 u_im_yX5_batchNumbered u_se_yX5_batchNumbered u_in_RX5 u_co_yX5_batchNumbered hd_yX5_batchNumbered (hT.at0 0 6) (by decide) rfl rfl ⟨Nat.le_of_ble_eq_true rfl, Nat.le_of_ble_eq_true rfl⟩ ⟨Nat.le_of_ble_eq_true rfl, Nat.le_of_ble_eq_true rfl⟩ (Nat.le_of_ble_eq_true rfl) dX5_lengthThrough_6 rfl (fun v6 u6 hp6 => ?_)
  obtain ⟨o6, ho6, hon6, rfl, rfl⟩ := hp6
  refine KSt (st2 := [.ref (wb w o6), .ref (q 2)]) rfl ?_
  have hokb := hW.okB (hW.lnB hon6)
  have hth := thr_zth hW hon6
  rw [← ho6] at hokb hth
  refine KGetIN C ul_X0 rfl (by decide) 2 2 rfl (by decide) rfl n_fn_RX5_213 (hBt.2.1 o6 (by omega)).2 (v := ((zpd z x : Nat) : Int)) ((hBV.1 o6 hon6).2.1.trans (by rw [ho6])) dX5_lengthThrough_9 (fun _ h => h) ?_
  refine KCallV (As := [.int (iI ((zpd z x : Nat) : Int))]) (b := q 2) (st := []) C (ct_X2_throughAisles l g S q (zpd z x) hT hCf (by rw [e11, e6]; exact hokb) hz) u_ml_RX5_217 u_im_yX2_throughAisles u_se_yX2_throughAisles u_in_RX2 u_co_yX2_throughAisles hd_yX2_throughAisles (hT.at0 2 3) (by decide) rfl rfl ⟨Nat.le_of_ble_eq_true rfl, Nat.le_of_ble_eq_true rfl⟩ ⟨Nat.le_of_ble_eq_true rfl, Nat.le_of_ble_eq_true rfl⟩ (Nat.le_of_ble_eq_true rfl) dX5_lengthThrough_12 rfl (fun v12 u12 hp12 => ?_)
  obtain ⟨rfl, f12, rfl, hK12⟩ := hp12
  refine KSt (st2 := [.int (iI (thrA (sI S (q 1) 1) (sI S (q 1) 2) (plc (sI S (q 6)) (zpd z x)) (sll S q (zpd z x)).length))]) rfl ?_
  refine KRg (fun hR => ?_)
  refine KTop (congrArg iI (show thrA (sI S (q 1) 1) (sI S (q 1) 2) (plc (sI S (q 6)) (zpd z x)) (sll S q (zpd z x)).length = zth z x from (by rw [← hth, e11, e12, e6]; exact congrArg (fun n9 => thrA (zN z) (zG z) (plc (zP z) (zpd z x)) n9) (by unfold sll; rw [e6])))) ?_
  have hCK : CP S q tt (wI S f12) z := by rw [htt]; exact CP.kept hT ⟨w, hCw⟩ hK12
  refine KX ?_
  refine KIret C rfl rfl (by
    exact ⟨_, _, (by unfold oTh; (repeat' split) <;> first | rfl | omega), rfl, hCK⟩) (by decide) (by decide) dX5_lengthThrough_15
def P_X5_stopAt (S : Sto) (q : Nat → Nat) (x : Int) (y : Int) (z : Sig) (tt : Nat) : Option Value → Sto → Prop := fun v u => ∃ r z', oSa z x y = (0, r, z') ∧ v = some (.int (iI r)) ∧ CP S q tt u z'
def T_X5_stopAt (S : Sto) (q : Nat → Nat) (x : Int) (y : Int) (z : Sig) (tt : Nat) : String → Sto → Prop := fun E u => ((oSa z x y = (1, 0, z) ∧ E = "java/lang/IndexOutOfBoundsException")) ∧ CP S q tt u z
set_option maxRecDepth 100000 in
set_option maxHeartbeats 4000000 in
theorem ct_X5_stopAt (l : Launch) (g : GG) (hnt : l.stackTraces = false) (S : Sto) (q : Nat → Nat) (x : Int) (y : Int) (z : Sig) (hT : Top S q) (hW : Wf z) (hCR : CR S q (gT g) z) (hix : inR x) (hiy : inR y) (tt : Nat) (htt : tt = gT g) : MetX l g yX5_stopAt cX5_stopAt 4 (some FieldType.int) 7 2 12 [.ref (q 0), .int (iI x), .int (iI y)] S (P_X5_stopAt S q x y z tt) (T_X5_stopAt S q x y z tt) := by
  refine MetX.of (own := RX5) (lv := [(0, .ref (q 0)), (1, .int (iI x)), (2, .int (iI y))]) (by decide) rfl (Nat.le_of_ble_eq_true rfl) rfl ?_
  intro pX eX sX mX argsX belowX methX cX C hne
  refine KRg (fun hR => ?_)
  obtain ⟨x1, x2⟩ := id hix
  obtain ⟨y1, y2⟩ := id hiy
  obtain ⟨w, hCw⟩ := hCR
  obtain ⟨hWh, hBk, hOr, hBt, hBV, hRt, hz⟩ := id hCw
  obtain ⟨e10, e11, e12, e6, e7, e04, e05, e06⟩ := id hWh
  have hC := hW.1
  have hCf : Cf S q := ⟨by omega, by omega, by omega, by omega, by omega, by omega⟩
  have hn4 := hBk.1.2.2.2.1
  have hn40 := hBk.1.2.2.2.2.1
  have hn5 := hBt.1.2.2.2.1
  have hn60 := hBt.1.2.2.2.2.1
  have ho40 := hW.2.1
  have hCP : CP S q tt S z := by rw [htt]; exact CP.refl hT ⟨w, hCw⟩
  refine KAload_n C dX5_stopAt_0 rfl 0 rfl ?_
  refine KIload_n C dX5_stopAt_1 rfl 1 rfl ?_
  refine KCallVX (As := [.int (iI x)]) (b := q 0) (st := []) C (ct_X5_batchNumbered l g hnt S q x w (zb z) hT hBt (⟨by omega, by omega⟩)) hne (fun E u ⟨h1, h2, h3⟩ => by subst h3; exact ⟨⟨(by unfold oSa; (repeat' split) <;> first | rfl | omega), h1⟩, hCP⟩) ⟨Nat.le_of_ble_eq_true rfl, Nat.le_of_ble_eq_true rfl⟩ u_ml_RX5_180 u_im_yX5_batchNumbered u_se_yX5_batchNumbered u_in_RX5 u_co_yX5_batchNumbered hd_yX5_batchNumbered (hT.at0 0 6) (by decide) rfl rfl ⟨Nat.le_of_ble_eq_true rfl, Nat.le_of_ble_eq_true rfl⟩ ⟨Nat.le_of_ble_eq_true rfl, Nat.le_of_ble_eq_true rfl⟩ (Nat.le_of_ble_eq_true rfl) dX5_stopAt_2 rfl (fun v2 u2 hp2 => ?_)
  obtain ⟨o2, ho2, hon2, rfl, rfl⟩ := hp2
  refine KSt (st2 := [.ref (wb w o2)]) rfl ?_
  obtain ⟨r1, r2, r3, r4, r5, r6⟩ := hRt o2 hon2
  have hokb := hW.okB (hW.lnB hon2)
  have hcb := hokb.2.1
  rw [← ho2] at r3 r4 hokb hcb
  refine KGetRN C ul_X0 rfl (by decide) 5 5 rfl (by decide) rfl n_fn_RX5_208 (hBt.2.1 o2 (by omega)).2 (b := wr w o2) r1 dX5_stopAt_5 (fun _ h => h) ?_
  refine KAstore_n (lv' := [(3, .ref (wr w o2)), (0, .ref (q 0)), (1, .int (iI x)), (2, .int (iI y))]) C dX5_stopAt_8 rfl (by decide) rfl ?_
  refine KIload_n C dX5_stopAt_9 rfl 3 rfl ?_
  refine KIf_lt (tgt := 19) C dX5_stopAt_10 (by decide) ⟨by omega, by omega⟩ (fun c10 => ?_) (fun c10 => ?_)
  · refine KThrow (cls := "java/lang/IndexOutOfBoundsException") (text := "no such stop") (ik := 62) (is := 220) (ic := 66) C hnt hne fit_java_lang_IndexOutOfBoundsException u_cl_RX5_62 u_in_java_lang_IndexOutOfBoundsException (show ∃ sa, vk_R RX5 220 "no such stop" sa sX from C.nws.2.2.2 (RX5, 220, "no such stop") s_RX5_220) (thr_words_RX5_66 C.words C.nws) (thr_good2_RX5_66) (Nat.le_of_ble_eq_true rfl) (Nat.le_of_ble_eq_true rfl) ⟨Nat.le_of_ble_eq_true rfl, Nat.le_of_ble_eq_true rfl⟩ (by
      first | exact ⟨⟨(by unfold oSa; (repeat' split) <;> first | rfl | omega), rfl⟩, hCP⟩) ⟨Nat.le_of_ble_eq_true rfl, Nat.le_of_ble_eq_true rfl⟩ dX5_stopAt_19 dX5_stopAt_22 dX5_stopAt_23 dX5_stopAt_25 dX5_stopAt_28
  · refine KIload_n C dX5_stopAt_13 rfl 3 rfl ?_
    refine KAload_n C dX5_stopAt_14 rfl 0 rfl ?_
    refine KAlenI C (cntb (zpd z x) 20) r2 r3 dX5_stopAt_15 ?_
    refine KIcmp_lt (tgt := 29) C dX5_stopAt_16 (by decide) ⟨by omega, by omega⟩ ⟨by omega, by omega⟩ (fun c16 => ?_) (fun c16 => ?_)
    · refine KAload_n C dX5_stopAt_29 rfl 0 rfl ?_
      refine KIload_n C dX5_stopAt_30 rfl 3 rfl ?_
      refine KIald  (v := rout (zN z) (zG z) (zP z) (zpd z x) y.toNat) C (cntb (zpd z x) 20) r2 r3 ⟨by omega, by omega⟩ (by omega) (by obtain ⟨n9, hn9⟩ : ∃ n9 : Nat, y = (n9 : Int) := ⟨y.toNat, by omega⟩; rw [hn9, Int.toNat_natCast]; exact r4 n9 (by omega)) dX5_stopAt_31 ?_
      have rb1 := hR.b (wr w o2) y (v := rout (zN z) (zG z) (zP z) (zpd z x) y.toNat) (by obtain ⟨n9, hn9⟩ : ∃ n9 : Nat, y = (n9 : Int) := ⟨y.toNat, by omega⟩; rw [hn9, Int.toNat_natCast]; exact r4 n9 (by omega))
      refine KX ?_
      refine KIret C rfl rfl (by
        exact ⟨_, _, (by unfold oSa; (repeat' split) <;> first | rfl | omega), rfl, hCP⟩) (by decide) (by decide) dX5_stopAt_32
    · refine KThrow (cls := "java/lang/IndexOutOfBoundsException") (text := "no such stop") (ik := 62) (is := 220) (ic := 66) C hnt hne fit_java_lang_IndexOutOfBoundsException u_cl_RX5_62 u_in_java_lang_IndexOutOfBoundsException (show ∃ sa, vk_R RX5 220 "no such stop" sa sX from C.nws.2.2.2 (RX5, 220, "no such stop") s_RX5_220) (thr_words_RX5_66 C.words C.nws) (thr_good2_RX5_66) (Nat.le_of_ble_eq_true rfl) (Nat.le_of_ble_eq_true rfl) ⟨Nat.le_of_ble_eq_true rfl, Nat.le_of_ble_eq_true rfl⟩ (by
        first | exact ⟨⟨(by unfold oSa; (repeat' split) <;> first | rfl | omega), rfl⟩, hCP⟩) ⟨Nat.le_of_ble_eq_true rfl, Nat.le_of_ble_eq_true rfl⟩ dX5_stopAt_19 dX5_stopAt_22 dX5_stopAt_23 dX5_stopAt_25 dX5_stopAt_28
def P_X5_inAisle (S : Sto) (q : Nat → Nat) (x : Int) (z : Sig) (tt : Nat) : Option Value → Sto → Prop := fun v u => ∃ r z', oIa z x = (0, r, z') ∧ v = some (.int (iI r)) ∧ CP S q tt u z'
def T_X5_inAisle (S : Sto) (q : Nat → Nat) (x : Int) (z : Sig) (tt : Nat) : String → Sto → Prop := fun E u => ((oIa z x = (1, 0, z) ∧ E = "java/lang/IndexOutOfBoundsException")) ∧ CP S q tt u z
set_option maxRecDepth 100000 in
set_option maxHeartbeats 4000000 in
theorem ct_X5_inAisle (l : Launch) (g : GG) (hnt : l.stackTraces = false) (S : Sto) (q : Nat → Nat) (x : Int) (z : Sig) (hT : Top S q) (hW : Wf z) (hCR : CR S q (gT g) z) (hix : inR x) (tt : Nat) (htt : tt = gT g) : MetX l g yX5_inAisle cX5_inAisle 2 (some FieldType.int) 7 1 6 [.ref (q 0), .int (iI x)] S (P_X5_inAisle S q x z tt) (T_X5_inAisle S q x z tt) := by
  refine MetX.of (own := RX5) (lv := [(0, .ref (q 0)), (1, .int (iI x))]) (by decide) rfl (Nat.le_of_ble_eq_true rfl) rfl ?_
  intro pX eX sX mX argsX belowX methX cX C hne
  refine KRg (fun hR => ?_)
  obtain ⟨x1, x2⟩ := id hix
  obtain ⟨w, hCw⟩ := hCR
  obtain ⟨hWh, hBk, hOr, hBt, hBV, hRt, hz⟩ := id hCw
  obtain ⟨e10, e11, e12, e6, e7, e04, e05, e06⟩ := id hWh
  have hC := hW.1
  have hCf : Cf S q := ⟨by omega, by omega, by omega, by omega, by omega, by omega⟩
  have hn4 := hBk.1.2.2.2.1
  have hn40 := hBk.1.2.2.2.2.1
  have hn5 := hBt.1.2.2.2.1
  have hn60 := hBt.1.2.2.2.2.1
  have ho40 := hW.2.1
  have hCP : CP S q tt S z := by rw [htt]; exact CP.refl hT ⟨w, hCw⟩
  refine KAload_n C dX5_inAisle_0 rfl 0 rfl ?_
  refine KGetR C ul_X5 rfl (by decide) 0 0 rfl (by decide) rfl u_fl_RX5_18 (hT.at0 0 6) (b := q 1) (hT.ptr 0 0 1) dX5_inAisle_1 (fun _ h => h) ?_
  refine KIload_n C dX5_inAisle_4 rfl 1 rfl ?_
  refine KCallV (As := [.int (iI x)]) (b := q 1) (st := []) C (ct_X3_hasAisle l g S q x hT (⟨by omega, by omega⟩)) u_ml_RX5_55 u_im_yX3_hasAisle u_se_yX3_hasAisle u_in_RX3 u_co_yX3_hasAisle hd_yX3_hasAisle (hT.at0 1 4) (by decide) rfl rfl ⟨Nat.le_of_ble_eq_true rfl, Nat.le_of_ble_eq_true rfl⟩ ⟨Nat.le_of_ble_eq_true rfl, Nat.le_of_ble_eq_true rfl⟩ (Nat.le_of_ble_eq_true rfl) dX5_inAisle_5 rfl (fun v5 u5 hp5 => ?_)
  obtain ⟨⟨b5, rfl⟩ | ⟨b5, rfl⟩, rfl⟩ := hp5
  · refine KSt (st2 := [.int (iI 1)]) rfl ?_
    rw [e10] at b5
    refine KIf_ne (tgt := 21) C dX5_inAisle_8 (by decide) ⟨by omega, by omega⟩ (fun _ => ?_) (fun h => absurd h (by decide))
    refine KAload_n C dX5_inAisle_21 rfl 0 rfl ?_
    refine KGetR C ul_X5 rfl (by decide) 2 2 rfl (by decide) rfl u_fl_RX5_36 (hT.at0 0 6) (b := q 3) (hT.ptr 0 2 3) dX5_inAisle_22 (fun _ h => h) ?_
    refine KIload_n C dX5_inAisle_25 rfl 1 rfl ?_
    refine KCallV (As := [.int (iI x)]) (b := q 3) (st := []) C (ct_X4_countIn l g S q x w (zb z) z hT hBt hRt hW rfl (⟨by omega, by omega⟩)) u_ml_RX5_224 u_im_yX4_countIn u_se_yX4_countIn u_in_RX4 u_co_yX4_countIn hd_yX4_countIn (hT.at0 3 5) (by decide) rfl rfl ⟨Nat.le_of_ble_eq_true rfl, Nat.le_of_ble_eq_true rfl⟩ ⟨Nat.le_of_ble_eq_true rfl, Nat.le_of_ble_eq_true rfl⟩ (Nat.le_of_ble_eq_true rfl) dX5_inAisle_26 rfl (fun v26 u26 hp26 => ?_)
    obtain ⟨rfl, rfl⟩ := hp26
    refine KSt (st2 := [.int (iI (ciA z x (zb z)))]) rfl ?_
    refine KX ?_
    refine KIret C rfl rfl (by
      exact ⟨_, _, (by unfold oIa; (repeat' split) <;> first | rfl | omega), rfl, hCP⟩) (by decide) (by decide) dX5_inAisle_29
  · refine KSt (st2 := [.int (iI 0)]) rfl ?_
    rw [e10] at b5
    refine KIf_ne (tgt := 21) C dX5_inAisle_8 (by decide) ⟨by omega, by omega⟩ (fun h => absurd h (by decide)) (fun _ => ?_)
    refine KThrow (cls := "java/lang/IndexOutOfBoundsException") (text := "no such aisle") (ik := 62) (is := 222) (ic := 66) C hnt hne fit_java_lang_IndexOutOfBoundsException u_cl_RX5_62 u_in_java_lang_IndexOutOfBoundsException (show ∃ sa, vk_R RX5 222 "no such aisle" sa sX from C.nws.2.2.2 (RX5, 222, "no such aisle") s_RX5_222) (thr_words_RX5_66 C.words C.nws) (thr_good2_RX5_66) (Nat.le_of_ble_eq_true rfl) (Nat.le_of_ble_eq_true rfl) ⟨Nat.le_of_ble_eq_true rfl, Nat.le_of_ble_eq_true rfl⟩ (by
      first | exact ⟨⟨(by unfold oIa; (repeat' split) <;> first | rfl | omega), rfl⟩, hCP⟩) ⟨Nat.le_of_ble_eq_true rfl, Nat.le_of_ble_eq_true rfl⟩ dX5_inAisle_11 dX5_inAisle_14 dX5_inAisle_15 dX5_inAisle_17 dX5_inAisle_20
