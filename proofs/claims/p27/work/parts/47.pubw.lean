def P_X5_setCapacity (S : Sto) (q : Nat → Nat) (l9 : Int) (z : Sig) (tt : Nat) : Option Value → Sto → Prop := fun v u => ∃ r z', oCap z l9 = (0, r, z') ∧ v = some (.int (iI r)) ∧ CP S q tt u z'
def T_X5_setCapacity (S : Sto) (q : Nat → Nat) (l9 : Int) (z : Sig) (tt : Nat) : String → Sto → Prop := fun E u => ((oCap z l9 = (1, 0, z) ∧ E = "java/lang/IllegalArgumentException") ∨ (oCap z l9 = (2, 0, z) ∧ E = "java/lang/IllegalStateException")) ∧ CP S q tt u z
set_option maxRecDepth 100000 in
set_option maxHeartbeats 4000000 in
theorem ct_X5_setCapacity (l : Launch) (g : GG) (hnt : l.stackTraces = false) (S : Sto) (q : Nat → Nat) (l9 : Int) (z : Sig) (hT : Top S q) (hW : Wf z) (hCR : CR S q (gT g) z) (hil9 : inR l9) (tt : Nat) (htt : tt = gT g) : MetX l g yX5_setCapacity cX5_setCapacity 3 (some FieldType.int) 7 2 12 [.ref (q 0), .int (iI l9)] S (P_X5_setCapacity S q l9 z tt) (T_X5_setCapacity S q l9 z tt) := by
  refine MetX.of (own := RX5) (lv := [(0, .ref (q 0)), (1, .int (iI l9))]) (by decide) rfl (Nat.le_of_ble_eq_true rfl) rfl ?_
  intro pX eX sX mX argsX belowX methX cX C hne
  refine KRg (fun hR => ?_)
  obtain ⟨l91, l92⟩ := id hil9
  obtain ⟨w, hCw⟩ := hCR
  obtain ⟨hWh, hBk, hOr, hBt, hBV, hRt, hz⟩ := id hCw
  obtain ⟨e10, e11, e12, e6, e7, e04, e05, e06⟩ := id hWh
  have hC := hW.1
  have hCf : Cf S q := ⟨by omega, by omega, by omega, by omega, by omega, by omega⟩
  have hn4 := hBk.1.2.2.2.1
  have hn40 := hBk.1.2.2.2.2.1
  have hn5 := hBt.1.2.2.2.1
  have hn60 := hBt.1.2.2.2.2.1
  have ho40 := hW.2.1
  have hCP : CP S q tt S z := by rw [htt]; exact CP.refl hT ⟨w, hCw⟩
  refine KIload_n C dX5_setCapacity_0 rfl 1 rfl ?_
  refine KIconst C dX5_setCapacity_1 ?_
  refine KIcmp_lt (tgt := 11) C dX5_setCapacity_2 (by decide) ⟨by omega, by omega⟩ ⟨by omega, by omega⟩ (fun c2 => ?_) (fun c2 => ?_)
  · refine KThrow (cls := "java/lang/IllegalArgumentException") (text := "lines is out of range") (ik := 123) (is := 153) (ic := 127) C hnt hne fit_java_lang_IllegalArgumentException u_cl_RX5_123 u_in_java_lang_IllegalArgumentException (show ∃ sa, vk_R RX5 153 "lines is out of range" sa sX from C.nws.2.2.2 (RX5, 153, "lines is out of range") s_RX5_153) (thr_words_RX5_127 C.words C.nws) (thr_good_RX5_127) (Nat.le_of_ble_eq_true rfl) (Nat.le_of_ble_eq_true rfl) ⟨Nat.le_of_ble_eq_true rfl, Nat.le_of_ble_eq_true rfl⟩ (by
      first | exact ⟨Or.inl ⟨(by unfold oCap; (repeat' split) <;> first | rfl | omega), rfl⟩, hCP⟩ | exact ⟨Or.inr ⟨(by unfold oCap; (repeat' split) <;> first | rfl | omega), rfl⟩, hCP⟩) ⟨Nat.le_of_ble_eq_true rfl, Nat.le_of_ble_eq_true rfl⟩ dX5_setCapacity_11 dX5_setCapacity_14 dX5_setCapacity_15 dX5_setCapacity_17 dX5_setCapacity_20
  · refine KIload_n C dX5_setCapacity_5 rfl 1 rfl ?_
    refine KBipush C dX5_setCapacity_6 (by decide) ?_
    refine KIcmp_le (tgt := 21) C dX5_setCapacity_8 (by decide) ⟨by omega, by omega⟩ ⟨by omega, by omega⟩ (fun c8 => ?_) (fun c8 => ?_)
    · refine KAload_n C dX5_setCapacity_21 rfl 0 rfl ?_
      refine KGetR C ul_X5 rfl (by decide) 2 2 rfl (by decide) rfl u_fl_RX5_36 (hT.at0 0 6) (b := q 3) (hT.ptr 0 2 3) dX5_setCapacity_22 (fun _ h => h) ?_
      refine KCallV (As := []) (b := q 3) (st := []) C (ct_X4_isOn l g S q w (zb z) hT hBt) u_ml_RX5_73 u_im_yX4_isOn u_se_yX4_isOn u_in_RX4 u_co_yX4_isOn hd_yX4_isOn (hT.at0 3 5) (by decide) rfl rfl ⟨Nat.le_of_ble_eq_true rfl, Nat.le_of_ble_eq_true rfl⟩ ⟨Nat.le_of_ble_eq_true rfl, Nat.le_of_ble_eq_true rfl⟩ (Nat.le_of_ble_eq_true rfl) dX5_setCapacity_25 rfl (fun v25 u25 hp25 => ?_)
      obtain ⟨⟨b25, rfl⟩ | ⟨b25, rfl⟩, rfl⟩ := hp25
      · refine KSt (st2 := [.int (iI 1)]) rfl ?_
        have hcn := can_0 (l := l9) b25 (zo z)
        refine KIf_ne (tgt := 39) C dX5_setCapacity_28 (by decide) ⟨by omega, by omega⟩ (fun _ => ?_) (fun h => absurd h (by decide))
        refine KThrow (cls := "java/lang/IllegalStateException") (text := "an order has more lines, or there is a wave") (ik := 77) (is := 158) (ic := 81) C hnt hne fit_java_lang_IllegalStateException u_cl_RX5_77 u_in_java_lang_IllegalStateException (show ∃ sa, vk_R RX5 158 "an order has more lines, or there is a wave" sa sX from C.nws.2.2.2 (RX5, 158, "an order has more lines, or there is a wave") s_RX5_158) (thr_words_RX5_81 C.words C.nws) (thr_good_RX5_81) (Nat.le_of_ble_eq_true rfl) (Nat.le_of_ble_eq_true rfl) ⟨Nat.le_of_ble_eq_true rfl, Nat.le_of_ble_eq_true rfl⟩ (by
          first | exact ⟨Or.inl ⟨(by unfold oCap; (repeat' split) <;> first | rfl | omega), rfl⟩, hCP⟩ | exact ⟨Or.inr ⟨(by unfold oCap; (repeat' split) <;> first | rfl | omega), rfl⟩, hCP⟩) ⟨Nat.le_of_ble_eq_true rfl, Nat.le_of_ble_eq_true rfl⟩ dX5_setCapacity_39 dX5_setCapacity_42 dX5_setCapacity_43 dX5_setCapacity_45 dX5_setCapacity_48
      · refine KSt (st2 := [.int (iI 0)]) rfl ?_
        have hcn := can_mx (z := z) (l := l9) (by omega) (by omega) (zo z)
        have hcb9 := canI_b z l9 (zo z)
        refine KIf_ne (tgt := 39) C dX5_setCapacity_28 (by decide) ⟨by omega, by omega⟩ (fun h => absurd h (by decide)) (fun _ => ?_)
        refine KAload_n C dX5_setCapacity_31 rfl 0 rfl ?_
        refine KCallV (As := []) (b := q 0) (st := []) C (ct_X5_mostLinesToDo l g S q w z hT hW hBk hOr) u_ml_RX5_155 u_im_yX5_mostLinesToDo u_se_yX5_mostLinesToDo u_in_RX5 u_co_yX5_mostLinesToDo hd_yX5_mostLinesToDo (hT.at0 0 6) (by decide) rfl rfl ⟨Nat.le_of_ble_eq_true rfl, Nat.le_of_ble_eq_true rfl⟩ ⟨Nat.le_of_ble_eq_true rfl, Nat.le_of_ble_eq_true rfl⟩ (Nat.le_of_ble_eq_true rfl) dX5_setCapacity_32 rfl (fun v32 u32 hp32 => ?_)
        obtain ⟨rfl, rfl⟩ := hp32
        refine KSt (st2 := [.int (iI (mxl z (zo z)))]) rfl ?_
        have hmb := mxl_b hW (zo z) (Nat.le_refl _)
        refine KIload_n C dX5_setCapacity_35 rfl 1 rfl ?_
        refine KIcmp_le (tgt := 49) C dX5_setCapacity_36 (by decide) ⟨by omega, by omega⟩ ⟨by omega, by omega⟩ (fun c36 => ?_) (fun c36 => ?_)
        · refine KAload_n C dX5_setCapacity_49 rfl 0 rfl ?_
          refine KGetI C ul_X5 rfl (by decide) 4 4 rfl (by decide) rfl u_fl_RX5_47 (hT.at0 0 6) (v := zC z) e04 dX5_setCapacity_50 (fun _ h => h) ?_
          have rb1 := hR.b (q 0) 4 (v := zC z) e04
          refine KIstore_n (lv' := [(2, .int (iI (zC z))), (0, .ref (q 0)), (1, .int (iI l9))]) C dX5_setCapacity_53 rfl (by decide) rfl ?_
          refine KAload_n C dX5_setCapacity_54 rfl 1 rfl ?_
          refine KIload_n C dX5_setCapacity_55 rfl 2 rfl ?_
          refine KPutI (ty := .int) (v := l9) C ul_X5 rfl (by decide) 4 4 rfl (by decide) rfl u_fl_RX5_47 tyX5 tyX5_ok nmX5 (hT.at0 0 6) ⟨by omega, by omega⟩ (by decide +kernel) rfl rfl rfl dX5_setCapacity_56 (fun _ h => h) ?_
          have hCK : CP S q tt (uI S (q 0) 4 l9) ((zA z, zN z, zG z, l9), z.2) := by rw [htt]; exact cap_fin hT hCw l9
          refine KIload_n C dX5_setCapacity_59 rfl 0 rfl ?_
          refine KX ?_
          refine KIret C rfl rfl (by
            exact ⟨_, _, (by unfold oCap; (repeat' split) <;> first | rfl | omega), rfl, hCK⟩) (by decide) (by decide) dX5_setCapacity_60
        · refine KThrow (cls := "java/lang/IllegalStateException") (text := "an order has more lines, or there is a wave") (ik := 77) (is := 158) (ic := 81) C hnt hne fit_java_lang_IllegalStateException u_cl_RX5_77 u_in_java_lang_IllegalStateException (show ∃ sa, vk_R RX5 158 "an order has more lines, or there is a wave" sa sX from C.nws.2.2.2 (RX5, 158, "an order has more lines, or there is a wave") s_RX5_158) (thr_words_RX5_81 C.words C.nws) (thr_good_RX5_81) (Nat.le_of_ble_eq_true rfl) (Nat.le_of_ble_eq_true rfl) ⟨Nat.le_of_ble_eq_true rfl, Nat.le_of_ble_eq_true rfl⟩ (by
            first | exact ⟨Or.inl ⟨(by unfold oCap; (repeat' split) <;> first | rfl | omega), rfl⟩, hCP⟩ | exact ⟨Or.inr ⟨(by unfold oCap; (repeat' split) <;> first | rfl | omega), rfl⟩, hCP⟩) ⟨Nat.le_of_ble_eq_true rfl, Nat.le_of_ble_eq_true rfl⟩ dX5_setCapacity_39 dX5_setCapacity_42 dX5_setCapacity_43 dX5_setCapacity_45 dX5_setCapacity_48
    · refine KThrow (cls := "java/lang/IllegalArgumentException") (text := "lines is out of range") (ik := 123) (is := 153) (ic := 127) C hnt hne fit_java_lang_IllegalArgumentException u_cl_RX5_123 u_in_java_lang_IllegalArgumentException (show ∃ sa, vk_R RX5 153 "lines is out of range" sa sX from C.nws.2.2.2 (RX5, 153, "lines is out of range") s_RX5_153) (thr_words_RX5_127 C.words C.nws) (thr_good_RX5_127) (Nat.le_of_ble_eq_true rfl) (Nat.le_of_ble_eq_true rfl) ⟨Nat.le_of_ble_eq_true rfl, Nat.le_of_ble_eq_true rfl⟩ (by
        first | exact ⟨Or.inl ⟨(by unfold oCap; (repeat' split) <;> first | rfl | omega), rfl⟩, hCP⟩ | exact ⟨Or.inr ⟨(by unfold oCap; (repeat' split) <;> first | rfl | omega), rfl⟩, hCP⟩) ⟨Nat.le_of_ble_eq_true rfl, Nat.le_of_ble_eq_true rfl⟩ dX5_setCapacity_11 dX5_setCapacity_14 dX5_setCapacity_15 dX5_setCapacity_17 dX5_setCapacity_20
def P_X5_put (S : Sto) (q : Nat → Nat) (p : Int) (a : Int) (i : Int) (z : Sig) (tt : Nat) : Option Value → Sto → Prop := fun v u => ∃ r z', oPut z p a i = (0, r, z') ∧ v = some (.int (iI r)) ∧ CP S q tt u z'
def T_X5_put (S : Sto) (q : Nat → Nat) (p : Int) (a : Int) (i : Int) (z : Sig) (tt : Nat) : String → Sto → Prop := fun E u => ((oPut z p a i = (1, 0, z) ∧ E = "java/lang/IndexOutOfBoundsException") ∨ (oPut z p a i = (2, 0, z) ∧ E = "java/lang/IllegalStateException")) ∧ CP S q tt u z
set_option maxRecDepth 100000 in
set_option maxHeartbeats 4000000 in
theorem ct_X5_put (l : Launch) (g : GG) (hnt : l.stackTraces = false) (S : Sto) (q : Nat → Nat) (p : Int) (a : Int) (i : Int) (z : Sig) (hT : Top S q) (hW : Wf z) (hCR : CR S q (gT g) z) (hip : inR p) (hia : inR a) (hii : inR i) (tt : Nat) (htt : tt = gT g) : MetX l g yX5_put cX5_put 6 (some FieldType.int) 7 3 18 [.ref (q 0), .int (iI p), .int (iI a), .int (iI i)] S (P_X5_put S q p a i z tt) (T_X5_put S q p a i z tt) := by
  refine MetX.of (own := RX5) (lv := [(0, .ref (q 0)), (1, .int (iI p)), (2, .int (iI a)), (3, .int (iI i))]) (by decide) rfl (Nat.le_of_ble_eq_true rfl) rfl ?_
  intro pX eX sX mX argsX belowX methX cX C hne
  refine KRg (fun hR => ?_)
  obtain ⟨p1, p2⟩ := id hip
  obtain ⟨a1, a2⟩ := id hia
  obtain ⟨i1, i2⟩ := id hii
  obtain ⟨w, hCw⟩ := hCR
  obtain ⟨hWh, hBk, hOr, hBt, hBV, hRt, hz⟩ := id hCw
  obtain ⟨e10, e11, e12, e6, e7, e04, e05, e06⟩ := id hWh
  have hC := hW.1
  have hCf : Cf S q := ⟨by omega, by omega, by omega, by omega, by omega, by omega⟩
  have hn4 := hBk.1.2.2.2.1
  have hn40 := hBk.1.2.2.2.2.1
  have hn5 := hBt.1.2.2.2.1
  have hn60 := hBt.1.2.2.2.2.1
  have ho40 := hW.2.1
  have hCP : CP S q tt S z := by rw [htt]; exact CP.refl hT ⟨w, hCw⟩
  refine KIload_n C dX5_put_0 rfl 1 rfl ?_
  refine KCallSX (As := [.int (iI p)]) (st := []) C (ct_X5_checkProduct l g hnt S p (⟨by omega, by omega⟩)) hne (fun E u ⟨h1, h2, h3⟩ => by subst h3; exact ⟨Or.inl ⟨(by unfold oPut; (repeat' split) <;> first | rfl | omega), h1⟩, hCP⟩) ⟨Nat.le_of_ble_eq_true rfl, Nat.le_of_ble_eq_true rfl⟩ u_ml_RX5_51 u_st_yX5_checkProduct u_in_RX5 u_co_yX5_checkProduct hd_yX5_checkProduct ⟨Nat.le_of_ble_eq_true rfl, Nat.le_of_ble_eq_true rfl⟩ ⟨Nat.le_of_ble_eq_true rfl, Nat.le_of_ble_eq_true rfl⟩ (Nat.le_of_ble_eq_true rfl) dX5_put_1 rfl (fun v1 u1 hp1 => ?_)
  obtain ⟨rfl, hck1, rfl⟩ := hp1
  refine KSt (st2 := []) rfl ?_
  refine KAload_n C dX5_put_4 rfl 0 rfl ?_
  refine KGetR C ul_X5 rfl (by decide) 0 0 rfl (by decide) rfl u_fl_RX5_18 (hT.at0 0 6) (b := q 1) (hT.ptr 0 0 1) dX5_put_5 (fun _ h => h) ?_
  refine KIload_n C dX5_put_8 rfl 2 rfl ?_
  refine KCallV (As := [.int (iI a)]) (b := q 1) (st := []) C (ct_X3_hasAisle l g S q a hT (⟨by omega, by omega⟩)) u_ml_RX5_55 u_im_yX3_hasAisle u_se_yX3_hasAisle u_in_RX3 u_co_yX3_hasAisle hd_yX3_hasAisle (hT.at0 1 4) (by decide) rfl rfl ⟨Nat.le_of_ble_eq_true rfl, Nat.le_of_ble_eq_true rfl⟩ ⟨Nat.le_of_ble_eq_true rfl, Nat.le_of_ble_eq_true rfl⟩ (Nat.le_of_ble_eq_true rfl) dX5_put_9 rfl (fun v9 u9 hp9 => ?_)
  obtain ⟨⟨b9, rfl⟩ | ⟨b9, rfl⟩, rfl⟩ := hp9
  · refine KSt (st2 := [.int (iI 1)]) rfl ?_
    rw [e10] at b9
    refine KIf_eq (tgt := 26) C dX5_put_12 (by decide) ⟨by omega, by omega⟩ (fun h => absurd h (by decide)) (fun _ => ?_)
    refine KAload_n C dX5_put_15 rfl 0 rfl ?_
    refine KGetR C ul_X5 rfl (by decide) 0 0 rfl (by decide) rfl u_fl_RX5_18 (hT.at0 0 6) (b := q 1) (hT.ptr 0 0 1) dX5_put_16 (fun _ h => h) ?_
    refine KIload_n C dX5_put_19 rfl 3 rfl ?_
    refine KCallV (As := [.int (iI i)]) (b := q 1) (st := []) C (ct_X3_hasPosition l g S q i hT (⟨by omega, by omega⟩)) u_ml_RX5_59 u_im_yX3_hasPosition u_se_yX3_hasPosition u_in_RX3 u_co_yX3_hasPosition hd_yX3_hasPosition (hT.at0 1 4) (by decide) rfl rfl ⟨Nat.le_of_ble_eq_true rfl, Nat.le_of_ble_eq_true rfl⟩ ⟨Nat.le_of_ble_eq_true rfl, Nat.le_of_ble_eq_true rfl⟩ (Nat.le_of_ble_eq_true rfl) dX5_put_20 rfl (fun v20 u20 hp20 => ?_)
    obtain ⟨⟨b20, rfl⟩ | ⟨b20, rfl⟩, rfl⟩ := hp20
    · refine KSt (st2 := [.int (iI 1)]) rfl ?_
      rw [e11] at b20
      refine KIf_ne (tgt := 36) C dX5_put_23 (by decide) ⟨by omega, by omega⟩ (fun _ => ?_) (fun h => absurd h (by decide))
      refine KIload_n C dX5_put_36 rfl 2 rfl ?_
      refine KBipush C dX5_put_37 (by decide) ?_
      refine KImul C dX5_put_39 ?_
      refine KIload_n C dX5_put_40 rfl 3 rfl ?_
      refine KIadd C dX5_put_41 ?_
      refine KTop (congrArg iI (show (a * 100) + i = 100 * a + i from (by omega))) ?_
      refine KIstore (lv' := [(4, .int (iI (100 * a + i))), (0, .ref (q 0)), (1, .int (iI p)), (2, .int (iI a)), (3, .int (iI i))]) C dX5_put_42 (by decide) rfl ?_
      refine KAload_n C dX5_put_44 rfl 1 rfl ?_
      refine KGetR C ul_X5 rfl (by decide) 0 0 rfl (by decide) rfl u_fl_RX5_18 (hT.at0 0 6) (b := q 1) (hT.ptr 0 0 1) dX5_put_45 (fun _ h => h) ?_
      refine KIload C dX5_put_48 0 rfl ?_
      refine KCallV (As := [.int (iI (100 * a + i))]) (b := q 1) (st := []) C (ct_X3_productAt l g S q (100 * a + i) hT (⟨by omega, by omega⟩)) u_ml_RX5_69 u_im_yX3_productAt u_se_yX3_productAt u_in_RX3 u_co_yX3_productAt hd_yX3_productAt (hT.at0 1 4) (by decide) rfl rfl ⟨Nat.le_of_ble_eq_true rfl, Nat.le_of_ble_eq_true rfl⟩ ⟨Nat.le_of_ble_eq_true rfl, Nat.le_of_ble_eq_true rfl⟩ (Nat.le_of_ble_eq_true rfl) dX5_put_50 rfl (fun v50 u50 hp50 => ?_)
      obtain ⟨rfl, rfl⟩ := hp50
      refine KSt (st2 := [.int (iI (firstAt (sI S (q 6)) (100 * a + i) 20))]) rfl ?_
      refine KTop (congrArg iI (show firstAt (sI S (q 6)) (100 * a + i) 20 = firstAt (zP z) (100 * a + i) 20 from (by rw [e6]))) ?_
      have hpt := put_tk hW (p := p) (to := 100 * a + i) (by omega)
      have hfa := firstAt_in (F := zP z) (v := 100 * a + i) 20
      have htk := tkI_b (zP z) p (100 * a + i) 20
      have hfb : -1 ≤ firstAt (zP z) (100 * a + i) 20 ∧ firstAt (zP z) (100 * a + i) 20 < 20 := by rcases hfa with ⟨h9, -⟩ | ⟨i9, h9, h8, -⟩ <;> omega
      clear hfa
      refine KIstore (lv' := [(5, .int (iI (firstAt (zP z) (100 * a + i) 20))), (4, .int (iI (100 * a + i))), (0, .ref (q 0)), (1, .int (iI p)), (2, .int (iI a)), (3, .int (iI i))]) C dX5_put_53 (by decide) rfl ?_
      refine KAload_n C dX5_put_55 rfl 2 rfl ?_
      refine KGetR C ul_X5 rfl (by decide) 2 2 rfl (by decide) rfl u_fl_RX5_36 (hT.at0 0 6) (b := q 3) (hT.ptr 0 2 3) dX5_put_56 (fun _ h => h) ?_
      refine KCallV (As := []) (b := q 3) (st := []) C (ct_X4_isOn l g S q w (zb z) hT hBt) u_ml_RX5_73 u_im_yX4_isOn u_se_yX4_isOn u_in_RX4 u_co_yX4_isOn hd_yX4_isOn (hT.at0 3 5) (by decide) rfl rfl ⟨Nat.le_of_ble_eq_true rfl, Nat.le_of_ble_eq_true rfl⟩ ⟨Nat.le_of_ble_eq_true rfl, Nat.le_of_ble_eq_true rfl⟩ (Nat.le_of_ble_eq_true rfl) dX5_put_59 rfl (fun v59 u59 hp59 => ?_)
      obtain ⟨⟨b59, rfl⟩ | ⟨b59, rfl⟩, rfl⟩ := hp59
      · refine KSt (st2 := [.int (iI 1)]) rfl ?_
        refine KIf_ne (tgt := 77) C dX5_put_62 (by decide) ⟨by omega, by omega⟩ (fun _ => ?_) (fun h => absurd h (by decide))
        refine KThrow (cls := "java/lang/IllegalStateException") (text := "another product is there, or there is a wave") (ik := 77) (is := 79) (ic := 81) C hnt hne fit_java_lang_IllegalStateException u_cl_RX5_77 u_in_java_lang_IllegalStateException (show ∃ sa, vk_R RX5 79 "another product is there, or there is a wave" sa sX from C.nws.2.2.2 (RX5, 79, "another product is there, or there is a wave") s_RX5_79) (thr_words_RX5_81 C.words C.nws) (thr_good_RX5_81) (Nat.le_of_ble_eq_true rfl) (Nat.le_of_ble_eq_true rfl) ⟨Nat.le_of_ble_eq_true rfl, Nat.le_of_ble_eq_true rfl⟩ (by
          first | exact ⟨Or.inl ⟨(by unfold oPut; (repeat' split) <;> first | rfl | omega), rfl⟩, hCP⟩ | exact ⟨Or.inr ⟨(by unfold oPut; (repeat' split) <;> first | rfl | omega), rfl⟩, hCP⟩) ⟨Nat.le_of_ble_eq_true rfl, Nat.le_of_ble_eq_true rfl⟩ dX5_put_77 dX5_put_80 dX5_put_81 dX5_put_83 dX5_put_86
      · refine KSt (st2 := [.int (iI 0)]) rfl ?_
        refine KIf_ne (tgt := 77) C dX5_put_62 (by decide) ⟨by omega, by omega⟩ (fun h => absurd h (by decide)) (fun _ => ?_)
        refine KIload C dX5_put_65 0 rfl ?_
        refine KIconst C dX5_put_67 ?_
        refine KIcmp_eq (tgt := 87) C dX5_put_68 (by decide) ⟨by omega, by omega⟩ ⟨by omega, by omega⟩ (fun c68 => ?_) (fun c68 => ?_)
        · refine KAload_n C dX5_put_87 rfl 2 rfl ?_
          refine KGetR C ul_X5 rfl (by decide) 0 0 rfl (by decide) rfl u_fl_RX5_18 (hT.at0 0 6) (b := q 1) (hT.ptr 0 0 1) dX5_put_88 (fun _ h => h) ?_
          refine KIload_n C dX5_put_91 rfl 3 rfl ?_
          refine KIload C dX5_put_92 1 rfl ?_
          refine KCallV (As := [.int (iI p), .int (iI (100 * a + i))]) (b := q 1) (st := []) C (ct_X3_move l g S q p (100 * a + i) hT (by omega) (⟨by omega, by omega⟩)) u_ml_RX5_82 u_im_yX3_move u_se_yX3_move u_in_RX3 u_co_yX3_move hd_yX3_move (hT.at0 1 4) (by decide) rfl rfl ⟨Nat.le_of_ble_eq_true rfl, Nat.le_of_ble_eq_true rfl⟩ ⟨Nat.le_of_ble_eq_true rfl, Nat.le_of_ble_eq_true rfl⟩ (Nat.le_of_ble_eq_true rfl) dX5_put_94 rfl (fun v94 u94 hp94 => ?_)
          obtain ⟨rfl, rfl⟩ := hp94
          refine KSt (st2 := [.int (iI (sI S (q 6) p))]) rfl ?_
          refine KRg (fun hR => ?_)
          refine KTop (congrArg iI (show sI S (q 6) p = zP z p from (congrFun e6 p))) ?_
          have hCK : CP S q tt (uI S (q 6) p (100 * a + i)) (zuP z (upd1 (zP z) p (100 * a + i))) := by rw [htt]; exact put_fin hT hCw (by omega) p (100 * a + i)
          refine KX ?_
          refine KIret C rfl rfl (by
            exact ⟨_, _, (by unfold oPut; (repeat' split) <;> first | rfl | omega), rfl, hCK⟩) (by decide) (by decide) dX5_put_97
        · refine KIload C dX5_put_71 0 rfl ?_
          refine KIload_n C dX5_put_73 rfl 3 rfl ?_
          refine KIcmp_eq (tgt := 87) C dX5_put_74 (by decide) ⟨by omega, by omega⟩ ⟨by omega, by omega⟩ (fun c74 => ?_) (fun c74 => ?_)
          · refine KAload_n C dX5_put_87 rfl 2 rfl ?_
            refine KGetR C ul_X5 rfl (by decide) 0 0 rfl (by decide) rfl u_fl_RX5_18 (hT.at0 0 6) (b := q 1) (hT.ptr 0 0 1) dX5_put_88 (fun _ h => h) ?_
            refine KIload_n C dX5_put_91 rfl 3 rfl ?_
            refine KIload C dX5_put_92 1 rfl ?_
            refine KCallV (As := [.int (iI p), .int (iI (100 * a + i))]) (b := q 1) (st := []) C (ct_X3_move l g S q p (100 * a + i) hT (by omega) (⟨by omega, by omega⟩)) u_ml_RX5_82 u_im_yX3_move u_se_yX3_move u_in_RX3 u_co_yX3_move hd_yX3_move (hT.at0 1 4) (by decide) rfl rfl ⟨Nat.le_of_ble_eq_true rfl, Nat.le_of_ble_eq_true rfl⟩ ⟨Nat.le_of_ble_eq_true rfl, Nat.le_of_ble_eq_true rfl⟩ (Nat.le_of_ble_eq_true rfl) dX5_put_94 rfl (fun v94 u94 hp94 => ?_)
            obtain ⟨rfl, rfl⟩ := hp94
            refine KSt (st2 := [.int (iI (sI S (q 6) p))]) rfl ?_
            refine KRg (fun hR => ?_)
            refine KTop (congrArg iI (show sI S (q 6) p = zP z p from (congrFun e6 p))) ?_
            have hCK : CP S q tt (uI S (q 6) p (100 * a + i)) (zuP z (upd1 (zP z) p (100 * a + i))) := by rw [htt]; exact put_fin hT hCw (by omega) p (100 * a + i)
            refine KX ?_
            refine KIret C rfl rfl (by
              exact ⟨_, _, (by unfold oPut; (repeat' split) <;> first | rfl | omega), rfl, hCK⟩) (by decide) (by decide) dX5_put_97
          · refine KThrow (cls := "java/lang/IllegalStateException") (text := "another product is there, or there is a wave") (ik := 77) (is := 79) (ic := 81) C hnt hne fit_java_lang_IllegalStateException u_cl_RX5_77 u_in_java_lang_IllegalStateException (show ∃ sa, vk_R RX5 79 "another product is there, or there is a wave" sa sX from C.nws.2.2.2 (RX5, 79, "another product is there, or there is a wave") s_RX5_79) (thr_words_RX5_81 C.words C.nws) (thr_good_RX5_81) (Nat.le_of_ble_eq_true rfl) (Nat.le_of_ble_eq_true rfl) ⟨Nat.le_of_ble_eq_true rfl, Nat.le_of_ble_eq_true rfl⟩ (by
              first | exact ⟨Or.inl ⟨(by unfold oPut; (repeat' split) <;> first | rfl | omega), rfl⟩, hCP⟩ | exact ⟨Or.inr ⟨(by unfold oPut; (repeat' split) <;> first | rfl | omega), rfl⟩, hCP⟩) ⟨Nat.le_of_ble_eq_true rfl, Nat.le_of_ble_eq_true rfl⟩ dX5_put_77 dX5_put_80 dX5_put_81 dX5_put_83 dX5_put_86
    · refine KSt (st2 := [.int (iI 0)]) rfl ?_
      rw [e11] at b20
      refine KIf_ne (tgt := 36) C dX5_put_23 (by decide) ⟨by omega, by omega⟩ (fun h => absurd h (by decide)) (fun _ => ?_)
      refine KThrow (cls := "java/lang/IndexOutOfBoundsException") (text := "no such place") (ik := 62) (is := 64) (ic := 66) C hnt hne fit_java_lang_IndexOutOfBoundsException u_cl_RX5_62 u_in_java_lang_IndexOutOfBoundsException (show ∃ sa, vk_R RX5 64 "no such place" sa sX from C.nws.2.2.2 (RX5, 64, "no such place") s_RX5_64) (thr_words_RX5_66 C.words C.nws) (thr_good2_RX5_66) (Nat.le_of_ble_eq_true rfl) (Nat.le_of_ble_eq_true rfl) ⟨Nat.le_of_ble_eq_true rfl, Nat.le_of_ble_eq_true rfl⟩ (by
        first | exact ⟨Or.inl ⟨(by unfold oPut; (repeat' split) <;> first | rfl | omega), rfl⟩, hCP⟩ | exact ⟨Or.inr ⟨(by unfold oPut; (repeat' split) <;> first | rfl | omega), rfl⟩, hCP⟩) ⟨Nat.le_of_ble_eq_true rfl, Nat.le_of_ble_eq_true rfl⟩ dX5_put_26 dX5_put_29 dX5_put_30 dX5_put_32 dX5_put_35
  · refine KSt (st2 := [.int (iI 0)]) rfl ?_
    rw [e10] at b9
    refine KIf_eq (tgt := 26) C dX5_put_12 (by decide) ⟨by omega, by omega⟩ (fun _ => ?_) (fun h => absurd h (by decide))
    refine KThrow (cls := "java/lang/IndexOutOfBoundsException") (text := "no such place") (ik := 62) (is := 64) (ic := 66) C hnt hne fit_java_lang_IndexOutOfBoundsException u_cl_RX5_62 u_in_java_lang_IndexOutOfBoundsException (show ∃ sa, vk_R RX5 64 "no such place" sa sX from C.nws.2.2.2 (RX5, 64, "no such place") s_RX5_64) (thr_words_RX5_66 C.words C.nws) (thr_good2_RX5_66) (Nat.le_of_ble_eq_true rfl) (Nat.le_of_ble_eq_true rfl) ⟨Nat.le_of_ble_eq_true rfl, Nat.le_of_ble_eq_true rfl⟩ (by
      first | exact ⟨Or.inl ⟨(by unfold oPut; (repeat' split) <;> first | rfl | omega), rfl⟩, hCP⟩ | exact ⟨Or.inr ⟨(by unfold oPut; (repeat' split) <;> first | rfl | omega), rfl⟩, hCP⟩) ⟨Nat.le_of_ble_eq_true rfl, Nat.le_of_ble_eq_true rfl⟩ dX5_put_26 dX5_put_29 dX5_put_30 dX5_put_32 dX5_put_35
def P_X5_layOut (S : Sto) (q : Nat → Nat) (z : Sig) (tt : Nat) : Option Value → Sto → Prop := fun v u => ∃ r z', oLay z = (0, r, z') ∧ v = some (.int (iI r)) ∧ CP S q tt u z'
def T_X5_layOut (S : Sto) (q : Nat → Nat) (z : Sig) (tt : Nat) : String → Sto → Prop := fun E u => ((oLay z = (1, 0, z) ∧ E = "java/lang/IllegalStateException")) ∧ CP S q tt u z
set_option maxRecDepth 100000 in
set_option maxHeartbeats 4000000 in
theorem ct_X5_layOut (l : Launch) (g : GG) (hnt : l.stackTraces = false) (S : Sto) (q : Nat → Nat) (z : Sig) (hT : Top S q) (hW : Wf z) (hCR : CR S q (gT g) z) (tt : Nat) (htt : tt = gT g) : MetX l g yX5_layOut cX5_layOut 1 (some FieldType.int) 7 1 6 [.ref (q 0)] S (P_X5_layOut S q z tt) (T_X5_layOut S q z tt) := by
  refine MetX.of (own := RX5) (lv := [(0, .ref (q 0))]) (by decide) rfl (Nat.le_of_ble_eq_true rfl) rfl ?_
  intro pX eX sX mX argsX belowX methX cX C hne
  refine KRg (fun hR => ?_)
  obtain ⟨w, hCw⟩ := hCR
  obtain ⟨hWh, hBk, hOr, hBt, hBV, hRt, hz⟩ := id hCw
  obtain ⟨e10, e11, e12, e6, e7, e04, e05, e06⟩ := id hWh
  have hC := hW.1
  have hCf : Cf S q := ⟨by omega, by omega, by omega, by omega, by omega, by omega⟩
  have hn4 := hBk.1.2.2.2.1
  have hn40 := hBk.1.2.2.2.2.1
  have hn5 := hBt.1.2.2.2.1
  have hn60 := hBt.1.2.2.2.2.1
  have ho40 := hW.2.1
  have hCP : CP S q tt S z := by rw [htt]; exact CP.refl hT ⟨w, hCw⟩
  refine KAload_n C dX5_layOut_0 rfl 0 rfl ?_
  refine KGetR C ul_X5 rfl (by decide) 2 2 rfl (by decide) rfl u_fl_RX5_36 (hT.at0 0 6) (b := q 3) (hT.ptr 0 2 3) dX5_layOut_1 (fun _ h => h) ?_
  refine KCallV (As := []) (b := q 3) (st := []) C (ct_X4_isOn l g S q w (zb z) hT hBt) u_ml_RX5_73 u_im_yX4_isOn u_se_yX4_isOn u_in_RX4 u_co_yX4_isOn hd_yX4_isOn (hT.at0 3 5) (by decide) rfl rfl ⟨Nat.le_of_ble_eq_true rfl, Nat.le_of_ble_eq_true rfl⟩ ⟨Nat.le_of_ble_eq_true rfl, Nat.le_of_ble_eq_true rfl⟩ (Nat.le_of_ble_eq_true rfl) dX5_layOut_4 rfl (fun v4 u4 hp4 => ?_)
  obtain ⟨⟨b4, rfl⟩ | ⟨b4, rfl⟩, rfl⟩ := hp4
  · refine KSt (st2 := [.int (iI 1)]) rfl ?_
    refine KIf_eq (tgt := 20) C dX5_layOut_7 (by decide) ⟨by omega, by omega⟩ (fun h => absurd h (by decide)) (fun _ => ?_)
    refine KThrow (cls := "java/lang/IllegalStateException") (text := "there is a wave") (ik := 77) (is := 85) (ic := 81) C hnt hne fit_java_lang_IllegalStateException u_cl_RX5_77 u_in_java_lang_IllegalStateException (show ∃ sa, vk_R RX5 85 "there is a wave" sa sX from C.nws.2.2.2 (RX5, 85, "there is a wave") s_RX5_85) (thr_words_RX5_81 C.words C.nws) (thr_good_RX5_81) (Nat.le_of_ble_eq_true rfl) (Nat.le_of_ble_eq_true rfl) ⟨Nat.le_of_ble_eq_true rfl, Nat.le_of_ble_eq_true rfl⟩ (by
      first | exact ⟨⟨(by unfold oLay; (repeat' split) <;> first | rfl | omega), rfl⟩, hCP⟩) ⟨Nat.le_of_ble_eq_true rfl, Nat.le_of_ble_eq_true rfl⟩ dX5_layOut_10 dX5_layOut_13 dX5_layOut_14 dX5_layOut_16 dX5_layOut_19
  · refine KSt (st2 := [.int (iI 0)]) rfl ?_
    refine KIf_eq (tgt := 20) C dX5_layOut_7 (by decide) ⟨by omega, by omega⟩ (fun _ => ?_) (fun h => absurd h (by decide))
    refine KAload_n C dX5_layOut_20 rfl 0 rfl ?_
    refine KGetR C ul_X5 rfl (by decide) 0 0 rfl (by decide) rfl u_fl_RX5_18 (hT.at0 0 6) (b := q 1) (hT.ptr 0 0 1) dX5_layOut_21 (fun _ h => h) ?_
    refine KCallV (As := []) (b := q 1) (st := []) C (ct_X3_rearrange l g S q z hT hW hWh) u_ml_RX5_87 u_im_yX3_rearrange u_se_yX3_rearrange u_in_RX3 u_co_yX3_rearrange hd_yX3_rearrange (hT.at0 1 4) (by decide) rfl rfl ⟨Nat.le_of_ble_eq_true rfl, Nat.le_of_ble_eq_true rfl⟩ ⟨Nat.le_of_ble_eq_true rfl, Nat.le_of_ble_eq_true rfl⟩ (Nat.le_of_ble_eq_true rfl) dX5_layOut_24 rfl (fun v24 u24 hp24 => ?_)
    obtain ⟨R24, Q24, rfl, rfl⟩ := hp24
    refine KSt (st2 := [.int (iI ((asg (zP z) (rkL z 20) (spL z 20) (rkL z 20).length).1))]) rfl ?_
    refine KRg (fun hR => ?_)
    have hCK := lay_fin (t := tt) (R := R24) (Q := Q24) (F := (asg (zP z) (rkL z 20) (spL z 20) (rkL z 20).length).2) hT (by rw [htt]; exact hCw) (by omega : zb z = 0)
    refine KX ?_
    refine KIret C rfl rfl (by
      exact ⟨_, _, (by unfold oLay; (repeat' split) <;> first | rfl | omega), rfl, hCK⟩) (by decide) (by decide) dX5_layOut_27
