def P_X4_isOn (S : Sto) (q : Nat → Nat) (w : Shp) (n : Nat) : Option Value → Sto → Prop := fun v u => ((0 < n) ∧ v = some (.int (iI 1)) ∨ ¬(0 < n) ∧ v = some (.int (iI 0))) ∧ S = u
set_option maxRecDepth 100000 in
set_option maxHeartbeats 4000000 in
theorem ct_X4_isOn (l : Launch) (g : GG) (S : Sto) (q : Nat → Nat) (w : Shp) (n : Nat) (hT : Top S q) (hBt : Bts S q (gT g) w n) : MetS l g yX4_isOn cX4_isOn 1 (some FieldType.boolean) 2 0 0 [.ref (q 3)] S (P_X4_isOn S q w n) := by
  refine MetS.of (own := RX4) (lv := [(0, .ref (q 3))]) (by decide) rfl (Nat.le_of_ble_eq_true rfl) rfl ?_
  intro pX eX sX mX argsX belowX methX cX C hin
  refine KRg (fun hR => ?_)
  have hn5 := hBt.1.2.2.2.1
  have hn60 := hBt.1.2.2.2.2.1
  refine KAload_n C dX4_isOn_0 rfl 0 rfl ?_
  refine KGetR C ul_X4 rfl (by decide) 1 1 rfl (by decide) rfl u_fl_RX4_12 (hT.at0 3 5) (b := q 5) (hT.ptr 3 1 5) dX4_isOn_1 (fun _ h => h) ?_
  refine KCallV (As := []) (b := q 5) (st := []) C (ct_Jx4a65c_isEmpty_aae02 l g S (q 5) (w5 w) (k5 w) n hBt.1) u_ml_RX4_27 u_im_yJx4a65c_isEmpty_aae02 u_se_yJx4a65c_isEmpty_aae02 u_in_RJx4a65c u_co_yJx4a65c_isEmpty_aae02 hd_yJx4a65c_isEmpty_aae02 (hT.at0 5 0) (by decide) rfl rfl ⟨Nat.le_of_ble_eq_true rfl, Nat.le_of_ble_eq_true rfl⟩ ⟨Nat.le_of_ble_eq_true rfl, Nat.le_of_ble_eq_true rfl⟩ (Nat.le_of_ble_eq_true rfl) dX4_isOn_4 rfl (fun v4 u4 hp4 => ?_)
  obtain ⟨⟨b4, rfl⟩ | ⟨b4, rfl⟩, rfl⟩ := hp4
  · refine KSt (st2 := [.int (iI 1)]) rfl ?_
    refine KIf_ne (tgt := 14) C dX4_isOn_7 (by decide) ⟨by omega, by omega⟩ (fun _ => ?_) (fun h => absurd h (by decide))
    refine KIconst C dX4_isOn_14 ?_
    refine KIret C rfl rfl (by
      first | exact ⟨Or.inl ⟨by omega, rfl⟩, rfl⟩ | exact ⟨Or.inr ⟨by omega, rfl⟩, rfl⟩) (by decide) (by decide) dX4_isOn_15
  · refine KSt (st2 := [.int (iI 0)]) rfl ?_
    refine KIf_ne (tgt := 14) C dX4_isOn_7 (by decide) ⟨by omega, by omega⟩ (fun h => absurd h (by decide)) (fun _ => ?_)
    refine KIconst C dX4_isOn_10 ?_
    refine KGoto (tgt := 15) C dX4_isOn_11 (by decide) ?_
    refine KIret C rfl rfl (by
      first | exact ⟨Or.inl ⟨by omega, rfl⟩, rfl⟩ | exact ⟨Or.inr ⟨by omega, rfl⟩, rfl⟩) (by decide) (by decide) dX4_isOn_15
def P_X4_size (S : Sto) (q : Nat → Nat) (w : Shp) (n : Nat) : Option Value → Sto → Prop := fun v u => v = some (.int (iI (n : Int))) ∧ S = u
set_option maxRecDepth 100000 in
set_option maxHeartbeats 4000000 in
theorem ct_X4_size (l : Launch) (g : GG) (S : Sto) (q : Nat → Nat) (w : Shp) (n : Nat) (hT : Top S q) (hBt : Bts S q (gT g) w n) : MetS l g yX4_size cX4_size 1 (some FieldType.int) 2 0 0 [.ref (q 3)] S (P_X4_size S q w n) := by
  refine MetS.of (own := RX4) (lv := [(0, .ref (q 3))]) (by decide) rfl (Nat.le_of_ble_eq_true rfl) rfl ?_
  intro pX eX sX mX argsX belowX methX cX C hin
  refine KRg (fun hR => ?_)
  have hn5 := hBt.1.2.2.2.1
  have hn60 := hBt.1.2.2.2.2.1
  refine KAload_n C dX4_size_0 rfl 0 rfl ?_
  refine KGetR C ul_X4 rfl (by decide) 1 1 rfl (by decide) rfl u_fl_RX4_12 (hT.at0 3 5) (b := q 5) (hT.ptr 3 1 5) dX4_size_1 (fun _ h => h) ?_
  refine KCallV (As := []) (b := q 5) (st := []) C (ct_Jx4a65c_size_8abf5 l g S (q 5) (w5 w) (k5 w) n hBt.1) u_ml_RX4_31 u_im_yJx4a65c_size_8abf5 u_se_yJx4a65c_size_8abf5 u_in_RJx4a65c u_co_yJx4a65c_size_8abf5 hd_yJx4a65c_size_8abf5 (hT.at0 5 0) (by decide) rfl rfl ⟨Nat.le_of_ble_eq_true rfl, Nat.le_of_ble_eq_true rfl⟩ ⟨Nat.le_of_ble_eq_true rfl, Nat.le_of_ble_eq_true rfl⟩ (Nat.le_of_ble_eq_true rfl) dX4_size_4 rfl (fun v4 u4 hp4 => ?_)
  obtain ⟨rfl, rfl⟩ := hp4
  refine KSt (st2 := [.int (iI (n : Int))]) rfl ?_
  refine KIret C rfl rfl (by
    exact ⟨rfl, rfl⟩) (by decide) (by decide) dX4_size_7
def P_X4_batchWith (S : Sto) (q : Nat → Nat) (o : Nat) (w : Shp) (n : Nat) (z : Sig) : Option Value → Sto → Prop := fun v u => v = some (.int (iI (zbt z (o : Int)))) ∧ S = u
set_option maxRecDepth 100000 in
set_option maxHeartbeats 4000000 in
theorem ct_X4_batchWith (l : Launch) (g : GG) (S : Sto) (q : Nat → Nat) (o : Nat) (w : Shp) (n : Nat) (z : Sig) (hT : Top S q) (hBt : Bts S q (gT g) w n) (hBV : BtV S w z n) (hW : Wf z) (hn : n = zb z) (ho : o < zo z) : MetS l g yX4_batchWith cX4_batchWith 3 (some FieldType.int) 4 0 0 [.ref (q 3), .int (iI (o : Int))] S (P_X4_batchWith S q o w n z) := by
  refine MetS.of (own := RX4) (lv := [(0, .ref (q 3)), (1, .int (iI (o : Int)))]) (by decide) rfl (Nat.le_of_ble_eq_true rfl) rfl ?_
  intro pX eX sX mX argsX belowX methX cX C hin
  refine KRg (fun hR => ?_)
  have hn5 := hBt.1.2.2.2.1
  have hn60 := hBt.1.2.2.2.2.1
  have ho40 := hW.2.1
  have hbt := (hW.2.2.2.2.1 o ho).2.2.1
  refine KIconst C dX4_batchWith_0 ?_
  refine KIstore_n (lv' := [(2, .int (iI 0)), (0, .ref (q 3)), (1, .int (iI (o : Int)))]) C dX4_batchWith_1 rfl (by decide) rfl ?_
  refine KLv (lv' := [(0, .ref (q 3)), (1, .int (iI (o : Int))), (2, .int (iI 0))]) [1, 2, 0] rfl ?_
  have loop2 : ∀ (nX : Nat) (b : Nat), n - b < nX → (b ≤ n) → (∀ i : Nat, i < b → zbt z (o : Int) ≠ (i : Int)) → Wk pX l eX (rmK 4 0 0) sX mX argsX belowX methX cX (MQ belowX (QcG g (P_X4_batchWith S q o w n z)) argsX sX 0 0 (ge (gB g))) g 3 0 0 2 [(0, .ref (q 3)), (1, .int (iI (o : Int))), (2, .int (iI (b : Int)))] [] S := by
    intro nX
    induction nX with
    | zero => intro b hm; exact absurd hm (Nat.not_lt_zero _)
    | succ nX ih2 =>
      intro b hm2 hb hno
      refine KRg (fun hR => ?_)
      refine KIload_n C dX4_batchWith_2 rfl 2 rfl ?_
      refine KAload_n C dX4_batchWith_3 rfl 0 rfl ?_
      refine KGetR C ul_X4 rfl (by decide) 1 1 rfl (by decide) rfl u_fl_RX4_12 (hT.at0 3 5) (b := q 5) (hT.ptr 3 1 5) dX4_batchWith_4 (fun _ h => h) ?_
      refine KCallV (As := []) (b := q 5) (st := [.int (iI (b : Int))]) C (ct_Jx4a65c_size_8abf5 l g S (q 5) (w5 w) (k5 w) n hBt.1) u_ml_RX4_31 u_im_yJx4a65c_size_8abf5 u_se_yJx4a65c_size_8abf5 u_in_RJx4a65c u_co_yJx4a65c_size_8abf5 hd_yJx4a65c_size_8abf5 (hT.at0 5 0) (by decide) rfl rfl ⟨Nat.le_of_ble_eq_true rfl, Nat.le_of_ble_eq_true rfl⟩ ⟨Nat.le_of_ble_eq_true rfl, Nat.le_of_ble_eq_true rfl⟩ (Nat.le_of_ble_eq_true rfl) dX4_batchWith_7 rfl (fun v7 u7 hp7 => ?_)
      obtain ⟨rfl, rfl⟩ := hp7
      refine KSt (st2 := [.int (iI (n : Int)), .int (iI (b : Int))]) rfl ?_
      refine KIcmp_ge (tgt := 39) C dX4_batchWith_10 (by decide) ⟨by omega, by omega⟩ ⟨by omega, by omega⟩ (fun c10 => ?_) (fun c10 => ?_)
      · refine KIconst C dX4_batchWith_39 ?_
        refine KIret C rfl rfl (by
          have hno9 := hno (zbt z (o : Int)).toNat
          exact ⟨congrArg (fun z9 : Int => some (Value.int (iI z9))) (by omega), rfl⟩) (by decide) (by decide) dX4_batchWith_40
      · refine KAload_n C dX4_batchWith_13 rfl 0 rfl ?_
        refine KGetR C ul_X4 rfl (by decide) 1 1 rfl (by decide) rfl u_fl_RX4_12 (hT.at0 3 5) (b := q 5) (hT.ptr 3 1 5) dX4_batchWith_14 (fun _ h => h) ?_
        refine KIload_n C dX4_batchWith_17 rfl 2 rfl ?_
        refine KCallV (As := [.int (iI (b : Int))]) (b := q 5) (st := []) C (ct_Jx4a65c_get_915e3 l g S (q 5) (w5 w) (k5 w) n hBt.1 b (wb w b) (by omega) ((hBt.2.1 b (by omega)).1)) u_ml_RX4_63 u_im_yJx4a65c_get_915e3 u_se_yJx4a65c_get_915e3 u_in_RJx4a65c u_co_yJx4a65c_get_915e3 hd_yJx4a65c_get_915e3 (hT.at0 5 0) (by decide) rfl rfl ⟨Nat.le_of_ble_eq_true rfl, Nat.le_of_ble_eq_true rfl⟩ ⟨Nat.le_of_ble_eq_true rfl, Nat.le_of_ble_eq_true rfl⟩ (Nat.le_of_ble_eq_true rfl) dX4_batchWith_18 rfl (fun v18 u18 hp18 => ?_)
        obtain ⟨rfl, rfl⟩ := hp18
        refine KSt (st2 := [.ref (wb w b)]) rfl ?_
        refine KCast C u_cl_RX4_35 (hBt.2.1 b (by omega)).2 (by decide) rfl rfl dX4_batchWith_21 ?_
        refine KIload_n C dX4_batchWith_24 rfl 1 rfl ?_
        obtain ⟨M, hM1, hM2, hM3⟩ := (hBV.1 b (by omega)).2.2.2.2
        refine KCallV (As := [.int (iI (o : Int))]) (b := (wb w b)) (st := []) C (ct_X0_holds l g S (wb w b) ((hBt.2.1 b (by omega)).2) o M hM1 hM2 (by omega)) u_ml_RX4_96 u_im_yX0_holds u_se_yX0_holds u_in_RX0 u_co_yX0_holds hd_yX0_holds (hBt.2.1 b (by omega)).2 (by decide) rfl rfl ⟨Nat.le_of_ble_eq_true rfl, Nat.le_of_ble_eq_true rfl⟩ ⟨Nat.le_of_ble_eq_true rfl, Nat.le_of_ble_eq_true rfl⟩ (Nat.le_of_ble_eq_true rfl) dX4_batchWith_25 rfl (fun v25 u25 hp25 => ?_)
        obtain ⟨⟨b25, rfl⟩ | ⟨b25, rfl⟩, rfl⟩ := hp25
        · refine KSt (st2 := [.int (iI 1)]) rfl ?_
          have hzb := ((hM3 o (by omega)).mp b25).2
          refine KIf_eq (tgt := 33) C dX4_batchWith_28 (by decide) ⟨by omega, by omega⟩ (fun h => absurd h (by decide)) (fun _ => ?_)
          refine KIload_n C dX4_batchWith_31 rfl 2 rfl ?_
          refine KIret C rfl rfl (by
            exact ⟨by rw [hzb], rfl⟩) (by decide) (by decide) dX4_batchWith_32
        · refine KSt (st2 := [.int (iI 0)]) rfl ?_
          have hzb : zbt z (o : Int) ≠ (b : Int) := fun h9 => b25 ((hM3 o (by omega)).mpr ⟨ho, h9⟩)
          refine KIf_eq (tgt := 33) C dX4_batchWith_28 (by decide) ⟨by omega, by omega⟩ (fun _ => ?_) (fun h => absurd h (by decide))
          refine KIinc (v := ((b + 1 : Nat) : Int)) (lv' := [(2, .int (iI ((b + 1 : Nat) : Int))), (0, .ref (q 3)), (1, .int (iI (o : Int)))]) C dX4_batchWith_33 2 rfl (by omega) (by decide) rfl ?_
          refine KGoto (tgt := 2) C dX4_batchWith_36 (by decide) ?_
          refine KLv (lv' := [(0, .ref (q 3)), (1, .int (iI (o : Int))), (2, .int (iI ((b + 1 : Nat) : Int)))]) [1, 2, 0] rfl ?_
          exact ih2 (b + 1) (by omega) (by omega) (fun i h => if e9 : i = b then e9 ▸ hzb else hno i (by omega))
  exact loop2 _ 0 (Nat.lt_succ_self _) (by omega) (fun i h => absurd h (Nat.not_lt_zero _))
def P_X4_countIn (S : Sto) (q : Nat → Nat) (x : Int) (w : Shp) (n : Nat) (z : Sig) : Option Value → Sto → Prop := fun v u => v = some (.int (iI (ciA z x (zb z)))) ∧ S = u
set_option maxRecDepth 100000 in
set_option maxHeartbeats 4000000 in
theorem ct_X4_countIn (l : Launch) (g : GG) (S : Sto) (q : Nat → Nat) (x : Int) (w : Shp) (n : Nat) (z : Sig) (hT : Top S q) (hBt : Bts S q (gT g) w n) (hRt : RtV S q w z n) (hW : Wf z) (hn : n = zb z) (hx : inR x) : MetS l g yX4_countIn cX4_countIn 4 (some FieldType.int) 4 0 0 [.ref (q 3), .int (iI x)] S (P_X4_countIn S q x w n z) := by
  refine MetS.of (own := RX4) (lv := [(0, .ref (q 3)), (1, .int (iI x))]) (by decide) rfl (Nat.le_of_ble_eq_true rfl) rfl ?_
  intro pX eX sX mX argsX belowX methX cX C hin
  refine KRg (fun hR => ?_)
  have hn5 := hBt.1.2.2.2.1
  have hn60 := hBt.1.2.2.2.2.1
  obtain ⟨hx1, hx2⟩ := hx
  have ho40 := hW.2.1
  refine KIconst C dX4_countIn_0 ?_
  refine KIstore_n (lv' := [(2, .int (iI 0)), (0, .ref (q 3)), (1, .int (iI x))]) C dX4_countIn_1 rfl (by decide) rfl ?_
  refine KIconst C dX4_countIn_2 ?_
  refine KIstore_n (lv' := [(3, .int (iI 0)), (2, .int (iI 0)), (0, .ref (q 3)), (1, .int (iI x))]) C dX4_countIn_3 rfl (by decide) rfl ?_
  refine KLv (lv' := [(0, .ref (q 3)), (1, .int (iI x)), (2, .int (iI 0)), (3, .int (iI 0))]) [2, 3, 1, 0] rfl ?_
  have loop4 : ∀ (nX : Nat) (b : Nat), n - b < nX → (b ≤ n) → Wk pX l eX (rmK 4 0 0) sX mX argsX belowX methX cX (MQ belowX (QcG g (P_X4_countIn S q x w n z)) argsX sX 0 0 (ge (gB g))) g 4 0 0 4 [(0, .ref (q 3)), (1, .int (iI x)), (2, .int (iI (ciA z x b))), (3, .int (iI (b : Int)))] [] S := by
    intro nX
    induction nX with
    | zero => intro b hm; exact absurd hm (Nat.not_lt_zero _)
    | succ nX ih4 =>
      intro b hm4 hb
      refine KRg (fun hR => ?_)
      have hcb := ciA_b z x b
      refine KIload_n C dX4_countIn_4 rfl 3 rfl ?_
      refine KAload_n C dX4_countIn_5 rfl 0 rfl ?_
      refine KGetR C ul_X4 rfl (by decide) 1 1 rfl (by decide) rfl u_fl_RX4_12 (hT.at0 3 5) (b := q 5) (hT.ptr 3 1 5) dX4_countIn_6 (fun _ h => h) ?_
      refine KCallV (As := []) (b := q 5) (st := [.int (iI (b : Int))]) C (ct_Jx4a65c_size_8abf5 l g S (q 5) (w5 w) (k5 w) n hBt.1) u_ml_RX4_31 u_im_yJx4a65c_size_8abf5 u_se_yJx4a65c_size_8abf5 u_in_RJx4a65c u_co_yJx4a65c_size_8abf5 hd_yJx4a65c_size_8abf5 (hT.at0 5 0) (by decide) rfl rfl ⟨Nat.le_of_ble_eq_true rfl, Nat.le_of_ble_eq_true rfl⟩ ⟨Nat.le_of_ble_eq_true rfl, Nat.le_of_ble_eq_true rfl⟩ (Nat.le_of_ble_eq_true rfl) dX4_countIn_9 rfl (fun v9 u9 hp9 => ?_)
      obtain ⟨rfl, rfl⟩ := hp9
      refine KSt (st2 := [.int (iI (n : Int)), .int (iI (b : Int))]) rfl ?_
      refine KIcmp_ge (tgt := 42) C dX4_countIn_12 (by decide) ⟨by omega, by omega⟩ ⟨by omega, by omega⟩ (fun c12 => ?_) (fun c12 => ?_)
      · refine KIload_n C dX4_countIn_42 rfl 2 rfl ?_
        refine KIret C rfl rfl (by
          exact ⟨by rw [show zb z = b by omega], rfl⟩) (by decide) (by decide) dX4_countIn_43
      · refine KAload_n C dX4_countIn_15 rfl 0 rfl ?_
        refine KGetR C ul_X4 rfl (by decide) 1 1 rfl (by decide) rfl u_fl_RX4_12 (hT.at0 3 5) (b := q 5) (hT.ptr 3 1 5) dX4_countIn_16 (fun _ h => h) ?_
        refine KIload_n C dX4_countIn_19 rfl 3 rfl ?_
        refine KCallV (As := [.int (iI (b : Int))]) (b := q 5) (st := []) C (ct_Jx4a65c_get_915e3 l g S (q 5) (w5 w) (k5 w) n hBt.1 b (wb w b) (by omega) ((hBt.2.1 b (by omega)).1)) u_ml_RX4_63 u_im_yJx4a65c_get_915e3 u_se_yJx4a65c_get_915e3 u_in_RJx4a65c u_co_yJx4a65c_get_915e3 hd_yJx4a65c_get_915e3 (hT.at0 5 0) (by decide) rfl rfl ⟨Nat.le_of_ble_eq_true rfl, Nat.le_of_ble_eq_true rfl⟩ ⟨Nat.le_of_ble_eq_true rfl, Nat.le_of_ble_eq_true rfl⟩ (Nat.le_of_ble_eq_true rfl) dX4_countIn_20 rfl (fun v20 u20 hp20 => ?_)
        obtain ⟨rfl, rfl⟩ := hp20
        refine KSt (st2 := [.ref (wb w b)]) rfl ?_
        refine KCast C u_cl_RX4_35 (hBt.2.1 b (by omega)).2 (by decide) rfl rfl dX4_countIn_23 ?_
        refine KIload_n C dX4_countIn_26 rfl 1 rfl ?_
        obtain ⟨r1, r2, r3, r4, -, -⟩ := hRt b (by omega)
        have hokb := hW.okB (hW.lnB (b := b) (by omega))
        have hC := hW.1
        have hrf := ro_fr hW (b := b) (by omega) x
        refine KCallV (As := [.int (iI x)]) (b := (wb w b)) (st := []) C (ct_X0_comesInto l g S (wb w b) ((hBt.2.1 b (by omega)).2) x (wr w b) (cntb (zpd z (b : Int)) 20) r1 (⟨r2, r3⟩) (Nat.le_trans hokb.2.1 (by omega)) (fun j hj => by rw [r4 j hj]; obtain ⟨p9, hp9, hq9, e9⟩ := rout_mem (G := zG z) ⟨by omega, by omega⟩ ⟨by omega, by omega⟩ hokb hj; rw [e9]; exact (hokb.1 p9 hp9 hq9).1) (⟨by omega, by omega⟩)) u_ml_RX4_100 u_im_yX0_comesInto u_se_yX0_comesInto u_in_RX0 u_co_yX0_comesInto hd_yX0_comesInto (hBt.2.1 b (by omega)).2 (by decide) rfl rfl ⟨Nat.le_of_ble_eq_true rfl, Nat.le_of_ble_eq_true rfl⟩ ⟨Nat.le_of_ble_eq_true rfl, Nat.le_of_ble_eq_true rfl⟩ (Nat.le_of_ble_eq_true rfl) dX4_countIn_27 rfl (fun v27 u27 hp27 => ?_)
        obtain ⟨⟨b27, rfl⟩ | ⟨b27, rfl⟩, rfl⟩ := hp27
        · refine KSt (st2 := [.int (iI 1)]) rfl ?_
          have hcz : 0 < zfr z (b : Int) x := hrf.mp (by obtain ⟨j9, h8, h9⟩ := b27; exact ⟨j9, h8, (r4 j9 h8) ▸ h9⟩)
          refine KIf_eq (tgt := 36) C dX4_countIn_30 (by decide) ⟨by omega, by omega⟩ (fun h => absurd h (by decide)) (fun _ => ?_)
          have hci := ci_t hcz
          refine KIinc (v := ciA z x (b + 1)) (lv' := [(2, .int (iI (ciA z x (b + 1)))), (0, .ref (q 3)), (1, .int (iI x)), (3, .int (iI (b : Int)))]) C dX4_countIn_33 2 rfl (by omega) (by decide) rfl ?_
          refine KIinc (v := ((b + 1 : Nat) : Int)) (lv' := [(3, .int (iI ((b + 1 : Nat) : Int))), (2, .int (iI (ciA z x (b + 1)))), (0, .ref (q 3)), (1, .int (iI x))]) C dX4_countIn_36 3 rfl (by omega) (by decide) rfl ?_
          refine KGoto (tgt := 4) C dX4_countIn_39 (by decide) ?_
          refine KLv (lv' := [(0, .ref (q 3)), (1, .int (iI x)), (2, .int (iI (ciA z x (b + 1)))), (3, .int (iI ((b + 1 : Nat) : Int)))]) [2, 3, 1, 0] rfl ?_
          exact ih4 (b + 1) (by omega) (by omega)
        · refine KSt (st2 := [.int (iI 0)]) rfl ?_
          have hcz : ¬ 0 < zfr z (b : Int) x := fun h7 => b27 (by obtain ⟨j9, h8, h9⟩ := hrf.mpr h7; exact ⟨j9, h8, (r4 j9 h8).symm ▸ h9⟩)
          refine KLvE (lv2 := [(0, .ref (q 3)), (1, .int (iI x)), (2, .int (iI (ciA z x (b + 1)))), (3, .int (iI (b : Int)))]) (congrArg (fun zz : Int => ([(0, .ref (q 3)), (1, .int (iI x)), (2, .int (iI zz)), (3, .int (iI (b : Int)))] : List (Nat × Value))) (show (ciA z x b : Int) = ciA z x (b + 1) from ((Int.add_zero _).symm.trans (ci_f hcz)))) ?_
          refine KIf_eq (tgt := 36) C dX4_countIn_30 (by decide) ⟨by omega, by omega⟩ (fun _ => ?_) (fun h => absurd h (by decide))
          refine KIinc (v := ((b + 1 : Nat) : Int)) (lv' := [(3, .int (iI ((b + 1 : Nat) : Int))), (0, .ref (q 3)), (1, .int (iI x)), (2, .int (iI (ciA z x (b + 1))))]) C dX4_countIn_36 3 rfl (by omega) (by decide) rfl ?_
          refine KGoto (tgt := 4) C dX4_countIn_39 (by decide) ?_
          refine KLv (lv' := [(0, .ref (q 3)), (1, .int (iI x)), (2, .int (iI (ciA z x (b + 1)))), (3, .int (iI ((b + 1 : Nat) : Int)))]) [1, 2, 3, 0] rfl ?_
          exact ih4 (b + 1) (by omega) (by omega)
  exact loop4 _ 0 (Nat.lt_succ_self _) (by omega)
def P_X4_savingOf (S : Sto) (q : Nat → Nat) (x : Nat) (y : Nat) (w : Shp) (n : Nat) (z : Sig) : Option Value → Sto → Prop := fun v u => v = some (.int (iI (sI S (q (30 + rwn S w x)) ((rwn S w y : Nat) : Int)))) ∧ S = u
set_option maxRecDepth 100000 in
set_option maxHeartbeats 4000000 in
theorem ct_X4_savingOf (l : Launch) (g : GG) (S : Sto) (q : Nat → Nat) (x : Nat) (y : Nat) (w : Shp) (n : Nat) (z : Sig) (hT : Top S q) (hBt : Bts S q (gT g) w n) (hBV : BtV S w z n) (hx : x < n) (hy : y < n) : MetS l g yX4_savingOf cX4_savingOf 3 (some FieldType.int) 4 0 0 [.ref (q 3), .int (iI (x : Int)), .int (iI (y : Int))] S (P_X4_savingOf S q x y w n z) := by
  refine MetS.of (own := RX4) (lv := [(0, .ref (q 3)), (1, .int (iI (x : Int))), (2, .int (iI (y : Int)))]) (by decide) rfl (Nat.le_of_ble_eq_true rfl) rfl ?_
  intro pX eX sX mX argsX belowX methX cX C hin
  refine KRg (fun hR => ?_)
  have hn5 := hBt.1.2.2.2.1
  have hn60 := hBt.1.2.2.2.2.1
  have hrx := hBV.rw hx
  have hry := hBV.rw hy
  refine KAload_n C dX4_savingOf_0 rfl 0 rfl ?_
  refine KGetR C ul_X4 rfl (by decide) 2 2 rfl (by decide) rfl u_fl_RX4_20 (hT.at0 3 5) (b := q 13) (hT.ptr 3 2 13) dX4_savingOf_1 (fun _ h => h) ?_
  refine KAload_n C dX4_savingOf_4 rfl 0 rfl ?_
  refine KGetR C ul_X4 rfl (by decide) 1 1 rfl (by decide) rfl u_fl_RX4_12 (hT.at0 3 5) (b := q 5) (hT.ptr 3 1 5) dX4_savingOf_5 (fun _ h => h) ?_
  refine KIload_n C dX4_savingOf_8 rfl 1 rfl ?_
  refine KCallV (As := [.int (iI (x : Int))]) (b := q 5) (st := [.ref (q 13)]) C (ct_Jx4a65c_get_915e3 l g S (q 5) (w5 w) (k5 w) n hBt.1 x (wb w x) (by omega) ((hBt.2.1 x (by omega)).1)) u_ml_RX4_63 u_im_yJx4a65c_get_915e3 u_se_yJx4a65c_get_915e3 u_in_RJx4a65c u_co_yJx4a65c_get_915e3 hd_yJx4a65c_get_915e3 (hT.at0 5 0) (by decide) rfl rfl ⟨Nat.le_of_ble_eq_true rfl, Nat.le_of_ble_eq_true rfl⟩ ⟨Nat.le_of_ble_eq_true rfl, Nat.le_of_ble_eq_true rfl⟩ (Nat.le_of_ble_eq_true rfl) dX4_savingOf_9 rfl (fun v9 u9 hp9 => ?_)
  obtain ⟨rfl, rfl⟩ := hp9
  refine KSt (st2 := [.ref (wb w x), .ref (q 13)]) rfl ?_
  refine KCast C u_cl_RX4_35 (hBt.2.1 x (by omega)).2 (by decide) rfl rfl dX4_savingOf_12 ?_
  refine KGetIN C ul_X0 rfl (by decide) 0 0 rfl (by decide) rfl n_fn_RX4_82 (hBt.2.1 x (by omega)).2 (v := ((rwn S w x : Nat) : Int)) hrx.1 dX4_savingOf_15 (fun _ h => h) ?_
  have rb1 := hR.b (wb w x) 0 (v := ((rwn S w x : Nat) : Int)) hrx.1
  refine KGaldR (b := q (30 + rwn S w x)) C 40 (hT.at0 13 22) (hT.ln0 13 40) ⟨by omega, by omega⟩ (by omega) (hT.sav hrx.2) dX4_savingOf_18 ?_
  refine KAload_n C dX4_savingOf_19 rfl 0 rfl ?_
  refine KGetR C ul_X4 rfl (by decide) 1 1 rfl (by decide) rfl u_fl_RX4_12 (hT.at0 3 5) (b := q 5) (hT.ptr 3 1 5) dX4_savingOf_20 (fun _ h => h) ?_
  refine KIload_n C dX4_savingOf_23 rfl 2 rfl ?_
  refine KCallV (As := [.int (iI (y : Int))]) (b := q 5) (st := [.ref (q (30 + rwn S w x))]) C (ct_Jx4a65c_get_915e3 l g S (q 5) (w5 w) (k5 w) n hBt.1 y (wb w y) (by omega) ((hBt.2.1 y (by omega)).1)) u_ml_RX4_63 u_im_yJx4a65c_get_915e3 u_se_yJx4a65c_get_915e3 u_in_RJx4a65c u_co_yJx4a65c_get_915e3 hd_yJx4a65c_get_915e3 (hT.at0 5 0) (by decide) rfl rfl ⟨Nat.le_of_ble_eq_true rfl, Nat.le_of_ble_eq_true rfl⟩ ⟨Nat.le_of_ble_eq_true rfl, Nat.le_of_ble_eq_true rfl⟩ (Nat.le_of_ble_eq_true rfl) dX4_savingOf_24 rfl (fun v24 u24 hp24 => ?_)
  obtain ⟨rfl, rfl⟩ := hp24
  refine KSt (st2 := [.ref (wb w y), .ref (q (30 + rwn S w x))]) rfl ?_
  refine KCast C u_cl_RX4_35 (hBt.2.1 y (by omega)).2 (by decide) rfl rfl dX4_savingOf_27 ?_
  refine KGetIN C ul_X0 rfl (by decide) 0 0 rfl (by decide) rfl n_fn_RX4_82 (hBt.2.1 y (by omega)).2 (v := ((rwn S w y : Nat) : Int)) hry.1 dX4_savingOf_30 (fun _ h => h) ?_
  have rb2 := hR.b (wb w y) 0 (v := ((rwn S w y : Nat) : Int)) hry.1
  refine KIald  (v := sI S (q (30 + rwn S w x)) ((rwn S w y : Nat) : Int)) C 40 (hT.sat hrx.2) (hT.sln hrx.2) ⟨by omega, by omega⟩ (by omega) rfl dX4_savingOf_33 ?_
  have rb3 := hR.b (q (30 + rwn S w x)) ((rwn S w y : Nat) : Int) (v := sI S (q (30 + rwn S w x)) ((rwn S w y : Nat) : Int)) rfl
  refine KIret C rfl rfl (by
    exact ⟨rfl, rfl⟩) (by decide) (by decide) dX4_savingOf_34
