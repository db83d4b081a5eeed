def P_X2_bestRoute (S : Sto) (q : Nat → Nat) (m : Nat) : Option Value → Sto → Prop := fun v u => ∃ (a : Nat) (f : Nat → Int → Int), v = some (.ref a) ∧ a ∉ sL S ∧ u = wI (nw S a 20 (sll S q m).length) f ∧ (∀ b j, b ≠ a → ¬ RSc q b j → f b j = sI S b j) ∧ f (q 29) 9 = 0 ∧ ∀ x : Nat, x < (sll S q m).length → f a (x : Int) = rout (sI S (q 1) 1) (sI S (q 1) 2) (sI S (q 6)) m x
set_option maxRecDepth 100000 in
set_option maxHeartbeats 4000000 in
theorem ct_X2_bestRoute (l : Launch) (g : GG) (S : Sto) (q : Nat → Nat) (m : Nat) (hT : Top S q) (hCf : Cf S q) (hm : okM (sI S (q 1) 1) (sI S (q 6)) m) (hz : sI S (q 29) 9 = 0) : MetS l g yX2_bestRoute cX2_bestRoute 6 (some (FieldType.array FieldType.int)) 4 1 9 [.ref (q 2), .int (iI (m : Int))] S (P_X2_bestRoute S q m) := by
  refine MetS.of (own := RX2) (lv := [(0, .ref (q 2)), (1, .int (iI (m : Int)))]) (by decide) rfl (Nat.le_of_ble_eq_true rfl) rfl ?_
  intro pX eX sX mX argsX belowX methX cX C hin
  refine KRg (fun hR => ?_)
  have hp1 := Nat.two_pow_pos (sll S q m).length
  refine KAload_n C dX2_bestRoute_0 rfl 0 rfl ?_
  refine KIload_n C dX2_bestRoute_1 rfl 1 rfl ?_
  refine KCallV (As := [.int (iI (m : Int))]) (b := q 2) (st := []) C (ct_X2_gather l g S q m hT hCf hm hz) u_ml_RX2_27 u_im_yX2_gather u_se_yX2_gather u_in_RX2 u_co_yX2_gather hd_yX2_gather (hT.at0 2 3) (by decide) rfl rfl ⟨Nat.le_of_ble_eq_true rfl, Nat.le_of_ble_eq_true rfl⟩ ⟨Nat.le_of_ble_eq_true rfl, Nat.le_of_ble_eq_true rfl⟩ (Nat.le_of_ble_eq_true rfl) dX2_bestRoute_2 rfl (fun v2 u2 hp2 => ?_)
  obtain ⟨rfl, f2, rfl, hGat2⟩ := hp2
  refine KSt (st2 := []) rfl ?_
  refine KRg (fun hR => ?_)
  have hRt := hGat2.rt hCf hm
  have hdo := hRt.2.1
  have hn9 := hdo.1
  refine KAload_n C dX2_bestRoute_5 rfl 0 rfl ?_
  refine KCallV (As := []) (b := q 2) (st := []) C (ct_X2_fillOnward l g (wI S f2) q ((sll S q m).length) (dM S q m) hT hRt) u_ml_RX2_31 u_im_yX2_fillOnward u_se_yX2_fillOnward u_in_RX2 u_co_yX2_fillOnward hd_yX2_fillOnward (hT.at0 2 3) (by decide) rfl rfl ⟨Nat.le_of_ble_eq_true rfl, Nat.le_of_ble_eq_true rfl⟩ ⟨Nat.le_of_ble_eq_true rfl, Nat.le_of_ble_eq_true rfl⟩ (Nat.le_of_ble_eq_true rfl) dX2_bestRoute_6 rfl (fun v6 u6 hp6 => ?_)
  obtain ⟨rfl, F6, rfl, hOn6⟩ := hp6
  refine KSt (st2 := []) rfl ?_
  refine KRg (fun hR => ?_)
  refine KAload_n C dX2_bestRoute_9 rfl 0 rfl ?_
  refine KGetI (S := wI S (row1 f2 (q 12) F6)) C ul_X2 rfl (by decide) 2 2 rfl (by decide) rfl u_fl_RX2_42 (hT.at0 2 3) (v := ((sll S q m).length : Int)) ((row1_ne _ _ _ (hT.ne 2 12)).trans hRt.1) dX2_bestRoute_10 (fun _ h => h) ?_
  have rb1 := hR.b (q 2) 2 (v := ((sll S q m).length : Int)) ((row1_ne _ _ _ (hT.ne 2 12)).trans hRt.1)
  refine KNewaI C ((sll S q m).length) rfl (by omega) u_ac_97 ⟨by show _ + 1 ≤ 1; omega, by show _ + _ ≤ 9; omega⟩ dX2_bestRoute_13 (fun a13 ha13 => ?_)
  refine KWiden (k := 1) (n := 9) (by omega) (by omega) ?_
  have hB := RtB.init hT ha13 hGat2 hRt hOn6
  have hT0 := hT
  have hT : Top (nw S a13 20 (sll S q m).length) q := hT0.ext (Ext.nw (S := S) ha13 _ _)
  refine KSto (S2 := wI (nw S a13 20 (sll S q m).length) (va_up (row1 f2 (q 12) F6) a13 (fun _ => 0))) rfl ?_
  refine KAstore_n (lv' := [(2, .ref a13), (0, .ref (q 2)), (1, .int (iI (m : Int)))]) C dX2_bestRoute_15 rfl (by decide) rfl ?_
  refine KBipush C dX2_bestRoute_16 (by decide) ?_
  refine KIstore_n (lv' := [(3, .int (iI 9)), (2, .ref a13), (0, .ref (q 2)), (1, .int (iI (m : Int)))]) C dX2_bestRoute_18 rfl (by decide) rfl ?_
  refine KAload_n C dX2_bestRoute_19 rfl 2 rfl ?_
  refine KCallV (As := []) (b := q 2) (st := []) C (ct_X2_everyPlace l g (wI (nw S a13 20 (sll S q m).length) (va_up (row1 f2 (q 12) F6) a13 (fun _ => 0))) q ((sll S q m).length) hT hB.2.2.1.1 (by omega)) u_ml_RX2_34 u_im_yX2_everyPlace u_se_yX2_everyPlace u_in_RX2 u_co_yX2_everyPlace hd_yX2_everyPlace (hT.at0 2 3) (by decide) rfl rfl ⟨Nat.le_of_ble_eq_true rfl, Nat.le_of_ble_eq_true rfl⟩ ⟨Nat.le_of_ble_eq_true rfl, Nat.le_of_ble_eq_true rfl⟩ (Nat.le_of_ble_eq_true rfl) dX2_bestRoute_20 rfl (fun v20 u20 hp20 => ?_)
  obtain ⟨rfl, rfl⟩ := hp20
  refine KSt (st2 := [.int (iI ((2 ^ ((sll S q m).length) - 1 : Nat) : Int))]) rfl ?_
  refine KRg (fun hR => ?_)
  refine KIstore (lv' := [(4, .int (iI ((2 ^ ((sll S q m).length) - 1 : Nat) : Int))), (3, .int (iI 9)), (2, .ref a13), (0, .ref (q 2)), (1, .int (iI (m : Int)))]) C dX2_bestRoute_23 (by decide) rfl ?_
  refine KIconst C dX2_bestRoute_25 ?_
  refine KIstore (lv' := [(5, .int (iI 0)), (4, .int (iI ((2 ^ ((sll S q m).length) - 1 : Nat) : Int))), (3, .int (iI 9)), (2, .ref a13), (0, .ref (q 2)), (1, .int (iI (m : Int)))]) C dX2_bestRoute_26 (by decide) rfl ?_
  refine KLv (lv' := [(0, .ref (q 2)), (1, .int (iI (m : Int))), (2, .ref a13), (3, .int (iI 9)), (4, .int (iI ((2 ^ ((sll S q m).length) - 1 : Nat) : Int))), (5, .int (iI 0))]) [4, 5, 3, 2, 1, 0] rfl ?_
  have loop28 : ∀ (nX : Nat) (i : Nat) (f : Nat → Int → Int), (sll S q m).length - i < nX → (i ≤ (sll S q m).length) → (RtB S q m a13 i f) → Wk pX l eX (rmK 4 1 9) sX mX argsX belowX methX cX (MQ belowX (QcG g (P_X2_bestRoute S q m)) argsX sX 1 9 (ge (gB g))) g 6 1 9 28 [(0, .ref (q 2)), (1, .int (iI (m : Int))), (2, .ref a13), (3, .int (iI ((rtS (dM S q m) (sll S q m).length i).1 : Int))), (4, .int (iI ((rtS (dM S q m) (sll S q m).length i).2 : Int))), (5, .int (iI (i : Int)))] [] (wI (nw S a13 20 (sll S q m).length) f) := by
    intro nX
    induction nX with
    | zero => intro i f hm; exact absurd hm (Nat.not_lt_zero _)
    | succ nX ih28 =>
      intro i f hm28 hi hB
      refine KRg (fun hR => ?_)
      refine KIload C dX2_bestRoute_28 5 rfl ?_
      refine KAload_n C dX2_bestRoute_30 rfl 0 rfl ?_
      refine KGetI (S := wI (nw S a13 20 (sll S q m).length) f) C ul_X2 rfl (by decide) 2 2 rfl (by decide) rfl u_fl_RX2_42 (hT.at0 2 3) (v := ((sll S q m).length : Int)) hB.2.2.1.1 dX2_bestRoute_31 (fun _ h => h) ?_
      have rb2 := hR.b (q 2) 2 (v := ((sll S q m).length : Int)) hB.2.2.1.1
      refine KIcmp_ge (tgt := 69) C dX2_bestRoute_34 (by decide) ⟨by omega, by omega⟩ ⟨by omega, by omega⟩ (fun c34 => ?_) (fun c34 => ?_)
      · refine KAload_n C dX2_bestRoute_69 rfl 2 rfl ?_
        refine KAret (v := some a13) C rfl (by first | exact Or.inl ⟨_, rfl⟩ | exact Or.inr ⟨_, rfl⟩) (by
          exact ⟨a13, f, rfl, ha13, rfl, hB.1, hB.2.1, fun x hx => hB.2.2.2.2.2 x (by omega)⟩) (by decide) (by decide) dX2_bestRoute_70
      · refine KAload_n C dX2_bestRoute_37 rfl 0 rfl ?_
        refine KIload_n C dX2_bestRoute_38 rfl 3 rfl ?_
        refine KIload C dX2_bestRoute_39 4 rfl ?_
        refine KCallV (As := [.int (iI ((rtS (dM S q m) (sll S q m).length i).1 : Int)), .int (iI ((rtS (dM S q m) (sll S q m).length i).2 : Int))]) (b := q 2) (st := []) C (ct_X2_bestNext l g (wI (nw S a13 20 (sll S q m).length) f) q ((sll S q m).length) (dM S q m) ((rtS (dM S q m) (sll S q m).length i).1) ((rtS (dM S q m) (sll S q m).length i).2) hT hB.2.2.1 ((rtS_ok hdo i (by omega)).2.2) ((rtS_ok hdo i (by omega)).1) (fun a b h => hB.2.2.2.1 a b (Nat.lt_trans h (rtS_ok hdo i (by omega)).1))) u_ml_RX2_46 u_im_yX2_bestNext u_se_yX2_bestNext u_in_RX2 u_co_yX2_bestNext hd_yX2_bestNext (hT.at0 2 3) (by decide) rfl rfl ⟨Nat.le_of_ble_eq_true rfl, Nat.le_of_ble_eq_true rfl⟩ ⟨Nat.le_of_ble_eq_true rfl, Nat.le_of_ble_eq_true rfl⟩ (Nat.le_of_ble_eq_true rfl) dX2_bestRoute_41 rfl (fun v41 u41 hp41 => ?_)
        obtain ⟨rfl, rfl⟩ := hp41
        refine KSt (st2 := [.int (iI ((bnI ((rtS (dM S q m) (sll S q m).length i).2) (fun k => (dM S q m) ((rtS (dM S q m) (sll S q m).length i).1) k + tr (dM S q m) ((sll S q m).length) (((rtS (dM S q m) (sll S q m).length i).2) - 2 ^ k) k) ((sll S q m).length) : Nat) : Int))]) rfl ?_
        refine KRg (fun hR => ?_)
        refine KTop (congrArg iI (show ((bnI ((rtS (dM S q m) (sll S q m).length i).2) (fun k => (dM S q m) ((rtS (dM S q m) (sll S q m).length i).1) k + tr (dM S q m) ((sll S q m).length) (((rtS (dM S q m) (sll S q m).length i).2) - 2 ^ k) k) ((sll S q m).length) : Nat) : Int) = ((rtS (dM S q m) (sll S q m).length (i + 1)).1 : Int) from rfl)) ?_
        obtain ⟨hb1, hb2, -, -⟩ := rtS_bit hdo (i := i) (by omega)
        refine KIstore_n (lv' := [(3, .int (iI ((rtS (dM S q m) (sll S q m).length (i + 1)).1 : Int))), (0, .ref (q 2)), (1, .int (iI (m : Int))), (2, .ref a13), (4, .int (iI ((rtS (dM S q m) (sll S q m).length i).2 : Int))), (5, .int (iI (i : Int)))]) C dX2_bestRoute_44 rfl (by decide) rfl ?_
        refine KIload C dX2_bestRoute_45 4 rfl ?_
        refine KIconst C dX2_bestRoute_47 ?_
        refine KIload_n C dX2_bestRoute_48 rfl 0 rfl ?_
        refine KIshl (v := iI ((2 ^ (rtS (dM S q m) (sll S q m).length (i + 1)).1 : Nat) : Int)) C dX2_bestRoute_49 (ib_shl (by omega)) ?_
        refine KIxor (v := iI ((rtS (dM S q m) (sll S q m).length (i + 1)).2 : Int)) C dX2_bestRoute_50 ((ib_xor _ _).trans (by rw [tb_xor hb2]; rfl)) ?_
        refine KIstore (lv' := [(4, .int (iI ((rtS (dM S q m) (sll S q m).length (i + 1)).2 : Int))), (3, .int (iI ((rtS (dM S q m) (sll S q m).length (i + 1)).1 : Int))), (0, .ref (q 2)), (1, .int (iI (m : Int))), (2, .ref a13), (5, .int (iI (i : Int)))]) C dX2_bestRoute_51 (by decide) rfl ?_
        refine KAload_n C dX2_bestRoute_53 rfl 4 rfl ?_
        refine KIload C dX2_bestRoute_54 5 rfl ?_
        refine KAload_n C dX2_bestRoute_56 rfl 2 rfl ?_
        refine KGetR (S := wI (nw S a13 20 (sll S q m).length) f) C ul_X2 rfl (by decide) 1 1 rfl (by decide) rfl u_fl_RX2_9 (hT.at0 2 3) (b := q 10) (hT.ptr 2 1 10) dX2_bestRoute_57 (fun _ h => h) ?_
        refine KIload_n C dX2_bestRoute_60 rfl 1 rfl ?_
        refine KIald (S := wI (nw S a13 20 (sll S q m).length) f)  (v := rout (sI S (q 1) 1) (sI S (q 1) 2) (sI S (q 6)) m i) C 9 (hT.at0 10 20) (hT.ln0 10 9) ⟨by omega, by omega⟩ (by omega) (hB.2.2.2.2.1 _ hb1) dX2_bestRoute_61 ?_
        have rb3 := hR.b (q 10) ((rtS (dM S q m) (sll S q m).length (i + 1)).1 : Int) (v := rout (sI S (q 1) 1) (sI S (q 1) 2) (sI S (q 6)) m i) (hB.2.2.2.2.1 _ hb1)
        refine KIast (S := wI (nw S a13 20 (sll S q m).length) f) C (sll S q m).length (nw_at (kd := 20) (n := (sll S q m).length)) (nw_ln (kd := 20) (n := (sll S q m).length)) ⟨by omega, by omega⟩ (by omega) ⟨by omega, by omega⟩ dX2_bestRoute_62 ?_
        refine KSto (S2 := wI (nw S a13 20 (sll S q m).length) (up2 f a13 (i : Int) (rout (sI S (q 1) 1) (sI S (q 1) 2) (sI S (q 6)) m i))) rfl ?_
        refine KIinc (v := ((i + 1 : Nat) : Int)) (lv' := [(5, .int (iI ((i + 1 : Nat) : Int))), (4, .int (iI ((rtS (dM S q m) (sll S q m).length (i + 1)).2 : Int))), (3, .int (iI ((rtS (dM S q m) (sll S q m).length (i + 1)).1 : Int))), (0, .ref (q 2)), (1, .int (iI (m : Int))), (2, .ref a13)]) C dX2_bestRoute_63 5 rfl (by omega) (by decide) rfl ?_
        refine KGoto (tgt := 28) C dX2_bestRoute_66 (by decide) ?_
        refine KLv (lv' := [(0, .ref (q 2)), (1, .int (iI (m : Int))), (2, .ref a13), (3, .int (iI ((rtS (dM S q m) (sll S q m).length (i + 1)).1 : Int))), (4, .int (iI ((rtS (dM S q m) (sll S q m).length (i + 1)).2 : Int))), (5, .int (iI ((i + 1 : Nat) : Int)))]) [3, 4, 5, 2, 1, 0] rfl ?_
        exact ih28 (i + 1) (up2 f a13 (i : Int) (rout (sI S (q 1) 1) (sI S (q 1) 2) (sI S (q 6)) m i)) (by omega) (by omega) (hB.put hT0 ha13)
  exact loop28 _ 0 (va_up (row1 f2 (q 12) F6) a13 (fun _ => 0)) (Nat.lt_succ_self _) (by omega) hB
