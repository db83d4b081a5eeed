def P_X5_order (S : Sto) (q : Nat → Nat) (x : Int) (z : Sig) (tt : Nat) : Option Value → Sto → Prop := fun v u => ∃ r z', oOrd z x = (0, r, z') ∧ v = some (.int (iI r)) ∧ CP S q tt u z'
def T_X5_order (S : Sto) (q : Nat → Nat) (x : Int) (z : Sig) (tt : Nat) : String → Sto → Prop := fun E u => ((oOrd z x = (1, 0, z) ∧ E = "java/lang/IllegalArgumentException") ∨ (oOrd z x = (2, 0, z) ∧ E = "java/lang/IllegalStateException")) ∧ CP S q tt u z
set_option maxRecDepth 100000 in
set_option maxHeartbeats 4000000 in
theorem ct_X5_order (l : Launch) (g : GG) (hnt : l.stackTraces = false) (S : Sto) (q : Nat → Nat) (x : Int) (z : Sig) (hT : Top S q) (hW : Wf z) (hCR : CR S q (gT g) z) (hix : inR x) (tt : Nat) (htt : tt = gT g) : MetX l g yX5_order cX5_order 2 (some FieldType.int) 8 4 90 [.ref (q 0), .int (iI x)] S (P_X5_order S q x z tt) (T_X5_order S q x z tt) := by
  refine MetX.of (own := RX5) (lv := [(0, .ref (q 0)), (1, .int (iI x))]) (by decide) rfl (Nat.le_of_ble_eq_true rfl) rfl ?_
  intro pX eX sX mX argsX belowX methX cX C hne
  refine KRg (fun hR => ?_)
  obtain ⟨x1, x2⟩ := id hix
  obtain ⟨w, hCw⟩ := hCR
  obtain ⟨hWh, hBk, hOr, hBt, hBV, hRt, hz⟩ := id hCw
  obtain ⟨e10, e11, e12, e6, e7, e04, e05, e06⟩ := id hWh
  have hC := hW.1
  have hCf : Cf S q := ⟨by omega, by omega, by omega, by omega, by omega, by omega⟩
  have hn4 := hBk.1.2.2.2.1
  have hn40 := hBk.1.2.2.2.2.1
  have hn5 := hBt.1.2.2.2.1
  have hn60 := hBt.1.2.2.2.2.1
  have ho40 := hW.2.1
  have hCP : CP S q tt S z := by rw [htt]; exact CP.refl hT ⟨w, hCw⟩
  refine KIload_n C dX5_order_0 rfl 1 rfl ?_
  refine KCallSX (As := [.int (iI x)]) (st := []) C (ct_X5_checkTime l g hnt S x (⟨by omega, by omega⟩)) hne (fun E u ⟨h1, h2, h3⟩ => by subst h3; exact ⟨Or.inl ⟨(by unfold oOrd; (repeat' split) <;> first | rfl | omega), h1⟩, hCP⟩) ⟨Nat.le_of_ble_eq_true rfl, Nat.le_of_ble_eq_true rfl⟩ u_ml_RX5_103 u_st_yX5_checkTime u_in_RX5 u_co_yX5_checkTime hd_yX5_checkTime ⟨Nat.le_of_ble_eq_true rfl, Nat.le_of_ble_eq_true rfl⟩ ⟨Nat.le_of_ble_eq_true rfl, Nat.le_of_ble_eq_true rfl⟩ (Nat.le_of_ble_eq_true rfl) dX5_order_1 rfl (fun v1 u1 hp1 => ?_)
  obtain ⟨rfl, hck1, rfl⟩ := hp1
  refine KSt (st2 := []) rfl ?_
  refine KAload_n C dX5_order_4 rfl 0 rfl ?_
  refine KGetR C ul_X5 rfl (by decide) 3 3 rfl (by decide) rfl u_fl_RX5_43 (hT.at0 0 6) (b := q 4) (hT.ptr 0 3 4) dX5_order_5 (fun _ h => h) ?_
  refine KCallV (As := []) (b := q 4) (st := []) C (ct_Jx4a65c_size_8abf5 l g S (q 4) (w4 w) (k4 w) (zo z) hBk.1) u_ml_RX5_106 u_im_yJx4a65c_size_8abf5 u_se_yJx4a65c_size_8abf5 u_in_RJx4a65c u_co_yJx4a65c_size_8abf5 hd_yJx4a65c_size_8abf5 (hT.at0 4 0) (by decide) rfl rfl ⟨Nat.le_of_ble_eq_true rfl, Nat.le_of_ble_eq_true rfl⟩ ⟨Nat.le_of_ble_eq_true rfl, Nat.le_of_ble_eq_true rfl⟩ (Nat.le_of_ble_eq_true rfl) dX5_order_8 rfl (fun v8 u8 hp8 => ?_)
  obtain ⟨rfl, rfl⟩ := hp8
  refine KSt (st2 := [.int (iI ((zo z) : Int))]) rfl ?_
  refine KBipush C dX5_order_11 (by decide) ?_
  refine KIcmp_lt (tgt := 26) C dX5_order_13 (by decide) ⟨by omega, by omega⟩ ⟨by omega, by omega⟩ (fun c13 => ?_) (fun c13 => ?_)
  · refine KAload_n C dX5_order_26 rfl 0 rfl ?_
    refine KGetR C ul_X5 rfl (by decide) 3 3 rfl (by decide) rfl u_fl_RX5_43 (hT.at0 0 6) (b := q 4) (hT.ptr 0 3 4) dX5_order_27 (fun _ h => h) ?_
    refine KNew C ul_X1 rfl (by decide) tyX1 tyX1_ok u_cl_RX5_111 u_is_RX1 u_in_RX1 nf_X1 ⟨by show _ + 1 ≤ 4; omega, by show _ + 4 ≤ 90; omega⟩ dX5_order_30 (fun a30 ha30 => ?_)
    obtain ⟨hF3, hO3, hT3⟩ := nw_fra hT hz ha30 2 0
    refine KDup C dX5_order_33 rfl ?_
    refine KIload_n C dX5_order_34 rfl 1 rfl ?_
    refine KCallI (As := [.int (iI x)]) (b := a30) (st := [.ref a30, .ref (q 4)]) C (ct_X1_init l g (nw S a30 2 0) a30 x (nw_at (kd := 2) (n := 0)) (⟨by omega, by omega⟩)) u_ml_RX5_113 u_im_yX1_init u_in_RX1 u_co_yX1_init rfl hd_yX1_init.2 ⟨Nat.le_of_ble_eq_true rfl, Nat.le_of_ble_eq_true rfl⟩ ⟨Nat.le_of_ble_eq_true rfl, Nat.le_of_ble_eq_true rfl⟩ (Nat.le_of_ble_eq_true rfl) dX5_order_35 rfl (fun v35 u35 hp35 => ?_)
    obtain ⟨rfl, e35, he35, rfl⟩ := hp35
    refine KSt (st2 := [.ref a30, .ref (q 4)]) rfl ?_
    refine KRg (fun hR => ?_)
    obtain ⟨hF4, hO4, hT4⟩ := nw_fra hT3 hF3.2.2 he35 20 20
    have hFa := hF3.trans hF4
    have hOa := hO3.trans hO4
    have hne35 : e35 ≠ a30 := fun e9 => he35 (e9 ▸ (nw_at (S := S) (a := a30) (kd := 2) (n := 0)).1)
    have hrS : e35 ∉ sL S := fun h9 => he35 (hF3.1 _ h9).1
    obtain ⟨hF5, hO5, hT5⟩ := own_fra (u := (uI (uI (uP (nw (nw S a30 2 0) e35 20 20) a30 1 (some e35)) a30 3 0) a30 0 x)) hT hFa hOa hT4 ha30 (Gro.same rfl rfl rfl) (fun x9 h9 => (up2_row _ _ _ h9).trans (up2_row _ _ _ h9)) (fun x9 h9 => up2_row _ _ _ h9) (fun x9 h9 => rfl)
    have ha35 : At0 (uI (uI (uP (nw (nw S a30 2 0) e35 20 20) a30 1 (some e35)) a30 3 0) a30 0 x) a30 2 := hF4.1.at (nw_at (S := S) (a := a30) (kd := 2) (n := 0))
    have hBk5 := hBk.fra hT hF5
    have hzr : sI (nw (nw S a30 2 0) e35 20 20) a30 2 = 0 := (congrFun (nw_Ine hne35.symm) 2).trans (nw_I 2)
    refine KCallV (As := [.ref a30]) (b := q 4) (st := []) C (ct_Jx4a65c_add_9ea2d l g (uI (uI (uP (nw (nw S a30 2 0) e35 20 20) a30 1 (some e35)) a30 3 0) a30 0 x) (q 4) a30 (w4 w) (k4 w) (zo z) hBk5.1 2 _ (by decide) rfl n_ca_RX1_java_lang_Object (fun j hj y9 hy9 => by have h8 := hBk5.2.1 j hj; have h7 := h8.1.symm.trans hy9; exact (Option.some.inj h7) ▸ h8.2.1) ha35 (by omega) (gT g) rfl) u_ml_RX5_115 u_im_yJx4a65c_add_9ea2d u_se_yJx4a65c_add_9ea2d u_in_RJx4a65c u_co_yJx4a65c_add_9ea2d hd_yJx4a65c_add_9ea2d (hT5.at0 4 0) (by decide) rfl rfl ⟨Nat.le_of_ble_eq_true rfl, Nat.le_of_ble_eq_true rfl⟩ ⟨Nat.le_of_ble_eq_true rfl, Nat.le_of_ble_eq_true rfl⟩ (Nat.le_of_ble_eq_true rfl) dX5_order_38 rfl (fun v38 u38 hp38 => ?_)
    obtain ⟨rfl, hadd38⟩ := hp38
    refine KSt (st2 := [.int (iI 1)]) rfl ?_
    refine KRg (fun hR => ?_)
    refine KNoT C (fun hnT => ?_)
    have hCK : CP S q tt u38 (zord z x) := by rw [htt]; exact ord_fin (r := e35) hT hW hCw (by omega) hF5 hO5 hT5 ha30 hrS ha35 ⟨nw_at (S := nw S a30 2 0) (a := e35) (kd := 20) (n := 20), nw_ln (S := nw S a30 2 0) (a := e35) (kd := 20) (n := 20)⟩ (up2_same _ _ _ _) (up2_same _ _ _ _) ((up2_nk _ _ _ _ (by decide)).trans ((up2_nk _ _ _ _ (by decide)).trans hzr)) ((up2_nk _ _ _ _ (by decide)).trans (up2_same _ _ _ _)) (fun j => (up2_ne _ _ _ _ hne35).trans ((up2_ne _ _ _ _ hne35).trans (nw_I (S := nw S a30 2 0) (kd := 20) (n := 20) j))) hadd38 hnT
    obtain ⟨E9, k9, hL9, -⟩ := id hadd38
    have hT := hCK.2.1
    refine KPop C dX5_order_41 rfl ?_
    refine KAload_n C dX5_order_42 rfl 0 rfl ?_
    refine KGetR (S := u38) C ul_X5 rfl (by decide) 3 3 rfl (by decide) rfl u_fl_RX5_43 (hT.at0 0 6) (b := q 4) (hT.ptr 0 3 4) dX5_order_43 (fun _ h => h) ?_
    refine KCallV (As := []) (b := q 4) (st := []) C (ct_Jx4a65c_size_8abf5 l g u38 (q 4) E9 k9 (zo z + 1) hL9) u_ml_RX5_106 u_im_yJx4a65c_size_8abf5 u_se_yJx4a65c_size_8abf5 u_in_RJx4a65c u_co_yJx4a65c_size_8abf5 hd_yJx4a65c_size_8abf5 (hT.at0 4 0) (by decide) rfl rfl ⟨Nat.le_of_ble_eq_true rfl, Nat.le_of_ble_eq_true rfl⟩ ⟨Nat.le_of_ble_eq_true rfl, Nat.le_of_ble_eq_true rfl⟩ (Nat.le_of_ble_eq_true rfl) dX5_order_46 rfl (fun v46 u46 hp46 => ?_)
    obtain ⟨rfl, rfl⟩ := hp46
    refine KSt (st2 := [.int (iI ((zo z + 1) : Int))]) rfl ?_
    refine KRg (fun hR => ?_)
    refine KIconst C dX5_order_49 ?_
    refine KIsub C dX5_order_50 ?_
    refine KTop (congrArg iI (show ((zo z + 1) : Int) - 1 = (zo z : Int) from (by omega))) ?_
    refine KX ?_
    refine KIret C rfl rfl (by
      exact ⟨_, _, (by unfold oOrd; (repeat' split) <;> first | rfl | omega), rfl, hCK⟩) (by decide) (by decide) dX5_order_51
  · refine KThrow (cls := "java/lang/IllegalStateException") (text := "there are as many orders as there may be") (ik := 77) (is := 109) (ic := 81) C hnt hne fit_java_lang_IllegalStateException u_cl_RX5_77 u_in_java_lang_IllegalStateException (show ∃ sa, vk_R RX5 109 "there are as many orders as there may be" sa sX from C.nws.2.2.2 (RX5, 109, "there are as many orders as there may be") s_RX5_109) (thr_words_RX5_81 C.words C.nws) (thr_good_RX5_81) (Nat.le_of_ble_eq_true rfl) (Nat.le_of_ble_eq_true rfl) ⟨Nat.le_of_ble_eq_true rfl, Nat.le_of_ble_eq_true rfl⟩ (by
      first | exact ⟨Or.inl ⟨(by unfold oOrd; (repeat' split) <;> first | rfl | omega), rfl⟩, hCP⟩ | exact ⟨Or.inr ⟨(by unfold oOrd; (repeat' split) <;> first | rfl | omega), rfl⟩, hCP⟩) ⟨Nat.le_of_ble_eq_true rfl, Nat.le_of_ble_eq_true rfl⟩ dX5_order_16 dX5_order_19 dX5_order_20 dX5_order_22 dX5_order_25
def P_X5_line (S : Sto) (q : Nat → Nat) (x : Int) (y : Int) (a9 : Int) (z : Sig) (tt : Nat) : Option Value → Sto → Prop := fun v u => ∃ r z', oLin z x y a9 = (0, r, z') ∧ v = some (.int (iI r)) ∧ CP S q tt u z'
def T_X5_line (S : Sto) (q : Nat → Nat) (x : Int) (y : Int) (a9 : Int) (z : Sig) (tt : Nat) : String → Sto → Prop := fun E u => ((oLin z x y a9 = (1, 0, z) ∧ E = "java/lang/IndexOutOfBoundsException") ∨ (oLin z x y a9 = (2, 0, z) ∧ E = "java/lang/IllegalArgumentException") ∨ (oLin z x y a9 = (3, 0, z) ∧ E = "java/lang/IllegalStateException")) ∧ CP S q tt u z
set_option maxRecDepth 100000 in
set_option maxHeartbeats 4000000 in
theorem ct_X5_line (l : Launch) (g : GG) (hnt : l.stackTraces = false) (S : Sto) (q : Nat → Nat) (x : Int) (y : Int) (a9 : Int) (z : Sig) (hT : Top S q) (hW : Wf z) (hCR : CR S q (gT g) z) (hix : inR x) (hiy : inR y) (hia9 : inR a9) (tt : Nat) (htt : tt = gT g) : MetX l g yX5_line cX5_line 5 (some FieldType.int) 7 4 24 [.ref (q 0), .int (iI x), .int (iI y), .int (iI a9)] S (P_X5_line S q x y a9 z tt) (T_X5_line S q x y a9 z tt) := by
  refine MetX.of (own := RX5) (lv := [(0, .ref (q 0)), (1, .int (iI x)), (2, .int (iI y)), (3, .int (iI a9))]) (by decide) rfl (Nat.le_of_ble_eq_true rfl) rfl ?_
  intro pX eX sX mX argsX belowX methX cX C hne
  refine KRg (fun hR => ?_)
  obtain ⟨x1, x2⟩ := id hix
  obtain ⟨y1, y2⟩ := id hiy
  obtain ⟨a91, a92⟩ := id hia9
  obtain ⟨w, hCw⟩ := hCR
  obtain ⟨hWh, hBk, hOr, hBt, hBV, hRt, hz⟩ := id hCw
  obtain ⟨e10, e11, e12, e6, e7, e04, e05, e06⟩ := id hWh
  have hC := hW.1
  have hCf : Cf S q := ⟨by omega, by omega, by omega, by omega, by omega, by omega⟩
  have hn4 := hBk.1.2.2.2.1
  have hn40 := hBk.1.2.2.2.2.1
  have hn5 := hBt.1.2.2.2.1
  have hn60 := hBt.1.2.2.2.2.1
  have ho40 := hW.2.1
  have hCP : CP S q tt S z := by rw [htt]; exact CP.refl hT ⟨w, hCw⟩
  refine KAload_n C dX5_line_0 rfl 0 rfl ?_
  refine KIload_n C dX5_line_1 rfl 1 rfl ?_
  refine KCallVX (As := [.int (iI x)]) (b := q 0) (st := []) C (ct_X5_orderNumbered l g hnt S q x w (zo z) hT hBk (⟨by omega, by omega⟩)) hne (fun E u ⟨h1, h2, h3⟩ => by subst h3; exact ⟨Or.inl ⟨(by unfold oLin; (repeat' split) <;> first | rfl | omega), h1⟩, hCP⟩) ⟨Nat.le_of_ble_eq_true rfl, Nat.le_of_ble_eq_true rfl⟩ u_ml_RX5_119 u_im_yX5_orderNumbered u_se_yX5_orderNumbered u_in_RX5 u_co_yX5_orderNumbered hd_yX5_orderNumbered (hT.at0 0 6) (by decide) rfl rfl ⟨Nat.le_of_ble_eq_true rfl, Nat.le_of_ble_eq_true rfl⟩ ⟨Nat.le_of_ble_eq_true rfl, Nat.le_of_ble_eq_true rfl⟩ (Nat.le_of_ble_eq_true rfl) dX5_line_2 rfl (fun v2 u2 hp2 => ?_)
  obtain ⟨o2, ho2, hon2, rfl, rfl⟩ := hp2
  refine KSt (st2 := [.ref (wo w o2)]) rfl ?_
  have hz9 : x.toNat = o2 := by omega
  have hm5 : zmn z x ≤ 5 := by rw [ho2]; exact (hW.2.2.2.2.1 o2 hon2).1.2
  have hsx : zst z x = sI S (wo w o2) 3 := by rw [ho2]; exact (hOr o2 hon2).2.2.1.symm
  have hmx : zmn z x = ((cntb (zW z o2) 20 : Nat) : Int) := by rw [ho2]; exact (hW.mn hon2).symm
  have hcb := cntb_le (zW z o2) 20
  have hWlt := zW_lt hW.wl hon2
  refine KAstore (lv' := [(4, .ref (wo w o2)), (0, .ref (q 0)), (1, .int (iI x)), (2, .int (iI y)), (3, .int (iI a9))]) C dX5_line_5 (by decide) rfl ?_
  refine KIload_n C dX5_line_7 rfl 3 rfl ?_
  refine KCallSX (As := [.int (iI y)]) (st := []) C (ct_X5_checkProduct l g hnt S y (⟨by omega, by omega⟩)) hne (fun E u ⟨h1, h2, h3⟩ => by subst h3; exact ⟨Or.inl ⟨(by unfold oLin; (repeat' split) <;> first | rfl | omega), h1⟩, hCP⟩) ⟨Nat.le_of_ble_eq_true rfl, Nat.le_of_ble_eq_true rfl⟩ u_ml_RX5_51 u_st_yX5_checkProduct u_in_RX5 u_co_yX5_checkProduct hd_yX5_checkProduct ⟨Nat.le_of_ble_eq_true rfl, Nat.le_of_ble_eq_true rfl⟩ ⟨Nat.le_of_ble_eq_true rfl, Nat.le_of_ble_eq_true rfl⟩ (Nat.le_of_ble_eq_true rfl) dX5_line_8 rfl (fun v8 u8 hp8 => ?_)
  obtain ⟨rfl, hck8, rfl⟩ := hp8
  refine KSt (st2 := []) rfl ?_
  obtain ⟨p, hp⟩ : ∃ p : Nat, y = (p : Int) := ⟨y.toNat, by omega⟩
  have hp9 : y.toNat = p := by omega
  refine KLvE (lv2 := [(4, .ref (wo w o2)), (0, .ref (q 0)), (1, .int (iI x)), (2, .int (iI (p : Int))), (3, .int (iI a9))]) (congrArg (fun zz : Int => ([(4, .ref (wo w o2)), (0, .ref (q 0)), (1, .int (iI x)), (2, .int (iI zz)), (3, .int (iI a9))] : List (Nat × Value))) (show (y : Int) = (p : Int) from hp)) ?_
  refine KIload_n C dX5_line_11 rfl 4 rfl ?_
  refine KIconst C dX5_line_12 ?_
  refine KIcmp_lt (tgt := 22) C dX5_line_13 (by decide) ⟨by omega, by omega⟩ ⟨by omega, by omega⟩ (fun c13 => ?_) (fun c13 => ?_)
  · refine KThrow (cls := "java/lang/IllegalArgumentException") (text := "quantity is out of range") (ik := 123) (is := 125) (ic := 127) C hnt hne fit_java_lang_IllegalArgumentException u_cl_RX5_123 u_in_java_lang_IllegalArgumentException (show ∃ sa, vk_R RX5 125 "quantity is out of range" sa sX from C.nws.2.2.2 (RX5, 125, "quantity is out of range") s_RX5_125) (thr_words_RX5_127 C.words C.nws) (thr_good_RX5_127) (Nat.le_of_ble_eq_true rfl) (Nat.le_of_ble_eq_true rfl) ⟨Nat.le_of_ble_eq_true rfl, Nat.le_of_ble_eq_true rfl⟩ (by
      first | exact ⟨Or.inl ⟨(by unfold oLin; (repeat' split) <;> first | rfl | omega), rfl⟩, hCP⟩ | exact ⟨Or.inr (Or.inl ⟨(by unfold oLin; (repeat' split) <;> first | rfl | omega), rfl⟩), hCP⟩ | exact ⟨Or.inr (Or.inr ⟨(by unfold oLin; (repeat' split) <;> first | rfl | omega), rfl⟩), hCP⟩) ⟨Nat.le_of_ble_eq_true rfl, Nat.le_of_ble_eq_true rfl⟩ dX5_line_22 dX5_line_25 dX5_line_26 dX5_line_28 dX5_line_31
  · refine KIload_n C dX5_line_16 rfl 4 rfl ?_
    refine KBipush C dX5_line_17 (by decide) ?_
    refine KIcmp_le (tgt := 32) C dX5_line_19 (by decide) ⟨by omega, by omega⟩ ⟨by omega, by omega⟩ (fun c19 => ?_) (fun c19 => ?_)
    · refine KAload_n C dX5_line_32 rfl 1 rfl ?_
      refine KAload C dX5_line_33 0 rfl ?_
      refine KCallV (As := [.ref (wo w o2)]) (b := q 0) (st := []) C (ct_X5_takesLine l g S q (wo w o2) (zW z o2) hT ((hBk.2.1 o2 (by omega)).2.1) ((hOr o2 hon2).2.1) hWlt) u_ml_RX5_128 u_im_yX5_takesLine u_se_yX5_takesLine u_in_RX5 u_co_yX5_takesLine hd_yX5_takesLine (hT.at0 0 6) (by decide) rfl rfl ⟨Nat.le_of_ble_eq_true rfl, Nat.le_of_ble_eq_true rfl⟩ ⟨Nat.le_of_ble_eq_true rfl, Nat.le_of_ble_eq_true rfl⟩ (Nat.le_of_ble_eq_true rfl) dX5_line_35 rfl (fun v35 u35 hp35 => ?_)
      obtain ⟨⟨b35, rfl⟩ | ⟨b35, rfl⟩, rfl⟩ := hp35
      · refine KSt (st2 := [.int (iI 1)]) rfl ?_
        rw [e04] at b35
        refine KIf_eq (tgt := 63) C dX5_line_38 (by decide) ⟨by omega, by omega⟩ (fun h => absurd h (by decide)) (fun _ => ?_)
        refine KAload C dX5_line_41 0 rfl ?_
        refine KIload_n C dX5_line_43 rfl 3 rfl ?_
        refine KCallV (As := [.int (iI (p : Int))]) (b := (wo w o2)) (st := []) C (ct_X1_asksFor l g S (wo w o2) ((hBk.2.1 o2 (by omega)).2.1) p (zW z o2) ((hOr o2 hon2).2.1) hWlt (by omega)) u_ml_RX5_132 u_im_yX1_asksFor u_se_yX1_asksFor u_in_RX1 u_co_yX1_asksFor hd_yX1_asksFor (hBk.2.1 o2 (by omega)).2.1 (by decide) rfl rfl ⟨Nat.le_of_ble_eq_true rfl, Nat.le_of_ble_eq_true rfl⟩ ⟨Nat.le_of_ble_eq_true rfl, Nat.le_of_ble_eq_true rfl⟩ (Nat.le_of_ble_eq_true rfl) dX5_line_44 rfl (fun v44 u44 hp44 => ?_)
        obtain ⟨⟨b44, rfl⟩ | ⟨b44, rfl⟩, rfl⟩ := hp44
        · refine KSt (st2 := [.int (iI 1)]) rfl ?_
          have hbt := tb_iff.mp b44
          refine KIf_ne (tgt := 63) C dX5_line_47 (by decide) ⟨by omega, by omega⟩ (fun _ => ?_) (fun h => absurd h (by decide))
          refine KThrow (cls := "java/lang/IllegalStateException") (text := "the order can't have this line") (ik := 77) (is := 135) (ic := 81) C hnt hne fit_java_lang_IllegalStateException u_cl_RX5_77 u_in_java_lang_IllegalStateException (show ∃ sa, vk_R RX5 135 "the order can't have this line" sa sX from C.nws.2.2.2 (RX5, 135, "the order can't have this line") s_RX5_135) (thr_words_RX5_81 C.words C.nws) (thr_good_RX5_81) (Nat.le_of_ble_eq_true rfl) (Nat.le_of_ble_eq_true rfl) ⟨Nat.le_of_ble_eq_true rfl, Nat.le_of_ble_eq_true rfl⟩ (by
            exact ⟨Or.inr (Or.inr ⟨(by unfold oLin; rw [hz9, hp9]; (repeat' split) <;> first | rfl | omega), rfl⟩), hCP⟩) ⟨Nat.le_of_ble_eq_true rfl, Nat.le_of_ble_eq_true rfl⟩ dX5_line_63 dX5_line_66 dX5_line_67 dX5_line_69 dX5_line_72
        · refine KSt (st2 := [.int (iI 0)]) rfl ?_
          have hbt : ¬ zW z o2 / 2 ^ p % 2 = 1 := fun h9 => b44 (tb_iff.mpr h9)
          refine KIf_ne (tgt := 63) C dX5_line_47 (by decide) ⟨by omega, by omega⟩ (fun h => absurd h (by decide)) (fun _ => ?_)
          refine KAload_n C dX5_line_50 rfl 1 rfl ?_
          refine KGetR C ul_X5 rfl (by decide) 0 0 rfl (by decide) rfl u_fl_RX5_18 (hT.at0 0 6) (b := q 1) (hT.ptr 0 0 1) dX5_line_51 (fun _ h => h) ?_
          refine KGetRN C ul_X3 rfl (by decide) 3 3 rfl (by decide) rfl n_fn_RX5_91 (hT.at0 1 4) (b := q 6) (hT.ptr 1 3 6) dX5_line_54 (fun _ h => h) ?_
          refine KIload_n C dX5_line_57 rfl 3 rfl ?_
          refine KIald  (v := zP z (p : Int)) C 20 (hT.at0 6 20) (hT.ln0 6 20) ⟨by omega, by omega⟩ (by omega) (congrFun e6 _) dX5_line_58 ?_
          have rb1 := hR.b (q 6) (p : Int) (v := zP z (p : Int)) (congrFun e6 _)
          have hpp : zP z y = zP z (p : Int) := by rw [hp]
          refine KIconst C dX5_line_59 ?_
          refine KIcmp_ne (tgt := 73) C dX5_line_60 (by decide) ⟨by omega, by omega⟩ ⟨by omega, by omega⟩ (fun c60 => ?_) (fun c60 => ?_)
          · refine KAload C dX5_line_73 0 rfl ?_
            refine KIload_n C dX5_line_75 rfl 3 rfl ?_
            refine KIload_n C dX5_line_76 rfl 4 rfl ?_
            refine KCallV (As := [.int (iI (p : Int)), .int (iI a9)]) (b := (wo w o2)) (st := []) C (ct_X1_addLine l g S (wo w o2) ((hBk.2.1 o2 (by omega)).2.1) p a9 (zW z o2) ((hOr o2 hon2).2.1) hWlt (wq w o2) ((hBk.2.1 o2 hon2).2.2.1) ((hBk.2.1 o2 hon2).2.2.2) (by omega) (⟨by omega, by omega⟩)) u_ml_RX5_137 u_im_yX1_addLine u_se_yX1_addLine u_in_RX1 u_co_yX1_addLine hd_yX1_addLine (hBk.2.1 o2 (by omega)).2.1 (by decide) rfl rfl ⟨Nat.le_of_ble_eq_true rfl, Nat.le_of_ble_eq_true rfl⟩ ⟨Nat.le_of_ble_eq_true rfl, Nat.le_of_ble_eq_true rfl⟩ (Nat.le_of_ble_eq_true rfl) dX5_line_77 rfl (fun v77 u77 hp77 => ?_)
            obtain ⟨rfl, rfl⟩ := hp77
            refine KSt (st2 := []) rfl ?_
            refine KRg (fun hR => ?_)
            have hbf : (zW z o2).testBit p = false := by rw [Bool.eq_false_iff]; exact b44
            have hCK : CP S q tt (uI (uI S (wo w o2) 2 (((zW z o2) ||| 2 ^ p : Nat) : Int)) (wq w o2) (p : Int) a9) (zlin z o2 (p : Int) a9) := by rw [htt]; exact lin_fin hT hW hCw hon2 (by omega) (by rw [← ho2]; omega) (by rw [← ho2]; omega) hbf
            have hoq : wo w o2 ≠ wq w o2 := kind_ne (hBk.2.1 o2 hon2).2.1 (hBk.2.1 o2 hon2).2.2.2.1 (by decide)
            refine KAload C dX5_line_80 0 rfl ?_
            refine KCallV (As := []) (b := (wo w o2)) (st := []) C (ct_X1_countLines l g (uI (uI S (wo w o2) 2 (((zW z o2) ||| 2 ^ p : Nat) : Int)) (wq w o2) (p : Int) a9) (wo w o2) ((hBk.2.1 o2 (by omega)).2.1) (zW z o2 ||| 2 ^ p) ((up2_ne _ _ _ _ hoq).trans (up2_same _ _ _ _)) (Nat.or_lt_two_pow (n := 20) hWlt (Nat.pow_lt_pow_right (by omega) (by omega)))) u_ml_RX5_141 u_im_yX1_countLines u_se_yX1_countLines u_in_RX1 u_co_yX1_countLines hd_yX1_countLines (hBk.2.1 o2 (by omega)).2.1 (by decide) rfl rfl ⟨Nat.le_of_ble_eq_true rfl, Nat.le_of_ble_eq_true rfl⟩ ⟨Nat.le_of_ble_eq_true rfl, Nat.le_of_ble_eq_true rfl⟩ (Nat.le_of_ble_eq_true rfl) dX5_line_82 rfl (fun v82 u82 hp82 => ?_)
            obtain ⟨rfl, rfl⟩ := hp82
            refine KSt (st2 := [.int (iI ((cntb (zW z o2 ||| 2 ^ p) 20 : Nat) : Int))]) rfl ?_
            refine KRg (fun hR => ?_)
            refine KTop (congrArg iI (show ((cntb (zW z o2 ||| 2 ^ p) 20 : Nat) : Int) = zmn z x + 1 from (by rw [cntb_set hbf (by omega)]; omega))) ?_
            refine KX ?_
            refine KIret C rfl rfl (by
              refine ⟨_, _, ?_, rfl, hCK⟩
              unfold oLin
              rw [hz9, hp9, if_neg (by omega), if_neg (by omega), if_neg (by omega), hp]) (by decide) (by decide) dX5_line_85
          · refine KThrow (cls := "java/lang/IllegalStateException") (text := "the order can't have this line") (ik := 77) (is := 135) (ic := 81) C hnt hne fit_java_lang_IllegalStateException u_cl_RX5_77 u_in_java_lang_IllegalStateException (show ∃ sa, vk_R RX5 135 "the order can't have this line" sa sX from C.nws.2.2.2 (RX5, 135, "the order can't have this line") s_RX5_135) (thr_words_RX5_81 C.words C.nws) (thr_good_RX5_81) (Nat.le_of_ble_eq_true rfl) (Nat.le_of_ble_eq_true rfl) ⟨Nat.le_of_ble_eq_true rfl, Nat.le_of_ble_eq_true rfl⟩ (by
              exact ⟨Or.inr (Or.inr ⟨(by unfold oLin; rw [hz9, hp9]; (repeat' split) <;> first | rfl | omega), rfl⟩), hCP⟩) ⟨Nat.le_of_ble_eq_true rfl, Nat.le_of_ble_eq_true rfl⟩ dX5_line_63 dX5_line_66 dX5_line_67 dX5_line_69 dX5_line_72
      · refine KSt (st2 := [.int (iI 0)]) rfl ?_
        rw [e04] at b35
        refine KIf_eq (tgt := 63) C dX5_line_38 (by decide) ⟨by omega, by omega⟩ (fun _ => ?_) (fun h => absurd h (by decide))
        refine KThrow (cls := "java/lang/IllegalStateException") (text := "the order can't have this line") (ik := 77) (is := 135) (ic := 81) C hnt hne fit_java_lang_IllegalStateException u_cl_RX5_77 u_in_java_lang_IllegalStateException (show ∃ sa, vk_R RX5 135 "the order can't have this line" sa sX from C.nws.2.2.2 (RX5, 135, "the order can't have this line") s_RX5_135) (thr_words_RX5_81 C.words C.nws) (thr_good_RX5_81) (Nat.le_of_ble_eq_true rfl) (Nat.le_of_ble_eq_true rfl) ⟨Nat.le_of_ble_eq_true rfl, Nat.le_of_ble_eq_true rfl⟩ (by
          exact ⟨Or.inr (Or.inr ⟨(by unfold oLin; rw [hz9, hp9]; (repeat' split) <;> first | rfl | omega), rfl⟩), hCP⟩) ⟨Nat.le_of_ble_eq_true rfl, Nat.le_of_ble_eq_true rfl⟩ dX5_line_63 dX5_line_66 dX5_line_67 dX5_line_69 dX5_line_72
    · refine KThrow (cls := "java/lang/IllegalArgumentException") (text := "quantity is out of range") (ik := 123) (is := 125) (ic := 127) C hnt hne fit_java_lang_IllegalArgumentException u_cl_RX5_123 u_in_java_lang_IllegalArgumentException (show ∃ sa, vk_R RX5 125 "quantity is out of range" sa sX from C.nws.2.2.2 (RX5, 125, "quantity is out of range") s_RX5_125) (thr_words_RX5_127 C.words C.nws) (thr_good_RX5_127) (Nat.le_of_ble_eq_true rfl) (Nat.le_of_ble_eq_true rfl) ⟨Nat.le_of_ble_eq_true rfl, Nat.le_of_ble_eq_true rfl⟩ (by
        first | exact ⟨Or.inl ⟨(by unfold oLin; (repeat' split) <;> first | rfl | omega), rfl⟩, hCP⟩ | exact ⟨Or.inr (Or.inl ⟨(by unfold oLin; (repeat' split) <;> first | rfl | omega), rfl⟩), hCP⟩ | exact ⟨Or.inr (Or.inr ⟨(by unfold oLin; (repeat' split) <;> first | rfl | omega), rfl⟩), hCP⟩) ⟨Nat.le_of_ble_eq_true rfl, Nat.le_of_ble_eq_true rfl⟩ dX5_line_22 dX5_line_25 dX5_line_26 dX5_line_28 dX5_line_31
