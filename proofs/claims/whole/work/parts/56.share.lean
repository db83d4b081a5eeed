def P_X5_share (S : Sto) (q : Nat → Nat) (w : Shp) (z : Sig) : Option Value → Sto → Prop := fun v u => v = some (.double (shr (zw z) (za z))) ∧ S = u
set_option maxRecDepth 100000 in
set_option maxHeartbeats 4000000 in
theorem ct_X5_share (l : Launch) (g : GG) (S : Sto) (q : Nat → Nat) (w : Shp) (z : Sig) (hT : Top S q) (hW : Wf z) (hCw : CRw S q (gT g) w z) : MetS l g yX5_share cX5_share 1 (some FieldType.double) 1 0 0 [.ref (q 0)] S (P_X5_share S q w z) := by
  refine MetS.of (own := RX5) (lv := [(0, .ref (q 0))]) (by decide) rfl (Nat.le_of_ble_eq_true rfl) rfl ?_
  intro pX eX sX mX argsX belowX methX cX C hin
  refine KRg (fun hR => ?_)
  obtain ⟨⟨e10, e11, e12, e6, e7, e04, e05, e06⟩, -⟩ := id hCw
  have hza := hW.2.2.2.2.2.2.2.2
  have hdn := dn_le (zst z) (zo z)
  have ho40 := hW.2.1
  have hrz : inR (za z) := ⟨by omega, by omega⟩
  refine KAload_n C dX5_share_0 rfl 0 rfl ?_
  refine KGetI C ul_X5 rfl (by decide) 6 6 rfl (by decide) rfl u_fl_RX5_227 (hT.at0 0 6) (v := za z) e06 dX5_share_1 (fun _ h => h) ?_
  have rb1 := hR.b (q 0) 6 (v := za z) e06
  refine KIf_ne (tgt := 11) C dX5_share_4 (by decide) ⟨by omega, by omega⟩ (fun c4 => ?_) (fun c4 => ?_)
  · refine KAload_n C dX5_share_11 rfl 0 rfl ?_
    refine KGetI C ul_X5 rfl (by decide) 5 5 rfl (by decide) rfl u_fl_RX5_193 (hT.at0 0 6) (v := zw z) e05 dX5_share_12 (fun _ h => h) ?_
    have rb2 := hR.b (q 0) 5 (v := zw z) e05
    refine KI2d C dX5_share_15 ?_
    refine KAload_n C dX5_share_16 rfl 0 rfl ?_
    refine KGetI C ul_X5 rfl (by decide) 6 6 rfl (by decide) rfl u_fl_RX5_227 (hT.at0 0 6) (v := za z) e06 dX5_share_17 (fun _ h => h) ?_
    have rb3 := hR.b (q 0) 6 (v := za z) e06
    refine KI2d C dX5_share_20 ?_
    refine KDdiv C (nan_vf (shr_n hrz c4)) dX5_share_21 ?_
    refine KDret C rfl (by
      refine ⟨congrArg (fun d9 => some (Value.double d9)) ?_, rfl⟩
      unfold shr
      first | rw [if_pos (by omega)] | rw [if_neg (by omega)]) (by decide) (by decide) dX5_share_22
  · refine KDconst1 C dX5_share_7 ?_
    refine KGoto (tgt := 22) C dX5_share_8 (by decide) ?_
    refine KDret C rfl (by
      refine ⟨congrArg (fun d9 => some (Value.double d9)) ?_, rfl⟩
      unfold shr
      first | rw [if_pos (by omega)] | rw [if_neg (by omega)]) (by decide) (by decide) dX5_share_22
def P_X6_share (S : Sto) (q : Nat → Nat) : Option Value → Sto → Prop := fun v u => v = some (.double (shr (zw (sgM S q)) (za (sgM S q)))) ∧ MP S q u 0 (sgM S q)
set_option maxRecDepth 100000 in
set_option maxHeartbeats 4000000 in
theorem ct_X6_share (l : Launch) (g : GG) (S : Sto) (q : Nat → Nat) (hT : Top S q) (hW : Wf (sgM S q)) (hCn : Cn S q) : MetS l g yX6_share cX6_share 1 (some FieldType.double) 1 0 0 [.ref (q 80)] S (P_X6_share S q) := by
  refine MetS.of (own := RX6) (lv := [(0, .ref (q 80))]) (by decide) rfl (Nat.le_of_ble_eq_true rfl) rfl ?_
  intro pX eX sX mX argsX belowX methX cX C hin
  refine KRg (fun hR => ?_)
  refine KAload_n C dX6_share_0 rfl 0 rfl ?_
  refine KIconst C dX6_share_1 ?_
  obtain ⟨T, hTT, hT9, hW, hCn, h00, hz, hM⟩ := MP.start hT hW hCn
  refine KPutI (ty := .int) (v := 0) C ul_X6 rfl (by decide) 0 0 rfl (by decide) rfl u_fl_RX6_59 tyX6 tyX6_ok nmX6 (hT.at0 80 7) ⟨by omega, by omega⟩ (by decide +kernel) rfl rfl rfl dX6_share_2 (fun _ h => h) ?_
  refine KSto (S2 := T) hTT.symm ?_
  have hT := hT9
  refine KRg (fun hR => ?_)
  have hza := hW.2.2.2.2.2.2.2.2
  have hdn := dn_le (zst (sgM T q)) (zo (sgM T q))
  have ho40 := hW.2.1
  have ez : za (sgM T q) = (sJ T (q 80) 15) := rfl
  have hrz : inR (sJ T (q 80) 15) := ⟨by omega, by omega⟩
  refine KAload_n C dX6_share_5 rfl 0 rfl ?_
  refine KGetJ (S := T) C ul_X6 rfl (by decide) 15 15 rfl (by decide) rfl u_fl_RX6_133 (hT.at0 80 7) (v := sJ T (q 80) 15) rfl dX6_share_6 (fun _ h => h) ?_
  refine KLconst (v := lI 0) C dX6_share_9 (by decide) ?_
  rcases (show (sJ T (q 80) 15) = 0 ∨ 0 < (sJ T (q 80) 15) by omega) with hq9 | hq9
  · refine KLcmp C dX6_share_10 ?_
    refine KTop (show lg_cmp (lI (sJ T (q 80) 15)) (lI 0) = iI 0 from (by rw [hq9]; exact lb_cmp00)) ?_
    refine KIf_ne (tgt := 18) C dX6_share_11 (by decide) ⟨by omega, by omega⟩ (fun h => absurd h (by decide)) (fun _ => ?_)
    refine KDconst1 C dX6_share_14 ?_
    refine KGoto (tgt := 29) C dX6_share_15 (by decide) ?_
    refine KDret C rfl (by
      unfold P_X6_share
      rw [← hz]
      refine ⟨congrArg (fun d9 => some (Value.double d9)) ?_, (by rw [hz]; exact hM)⟩
      show _ = shr (sI T (q 80) 14) (sJ T (q 80) 15)
      unfold shr
      first | rw [if_pos (by omega)] | (rw [if_neg (by omega)]; exact shr_l hrz)) (by decide) (by decide) dX6_share_29
  · refine KLcmp C dX6_share_10 ?_
    refine KTop (show lg_cmp (lI (sJ T (q 80) 15)) (lI 0) = iI 1 from (lb_cmp1 ⟨hq9, by omega⟩)) ?_
    refine KIf_ne (tgt := 18) C dX6_share_11 (by decide) ⟨by omega, by omega⟩ (fun _ => ?_) (fun h => absurd h (by decide))
    refine KAload_n C dX6_share_18 rfl 0 rfl ?_
    refine KGetI (S := T) C ul_X6 rfl (by decide) 14 14 rfl (by decide) rfl u_fl_RX6_137 (hT.at0 80 7) (v := sI T (q 80) 14) rfl dX6_share_19 (fun _ h => h) ?_
    have rb1 := hR.b (q 80) 14 (v := sI T (q 80) 14) rfl
    refine KI2d C dX6_share_22 ?_
    refine KAload_n C dX6_share_23 rfl 0 rfl ?_
    refine KGetJ (S := T) C ul_X6 rfl (by decide) 15 15 rfl (by decide) rfl u_fl_RX6_133 (hT.at0 80 7) (v := sJ T (q 80) 15) rfl dX6_share_24 (fun _ h => h) ?_
    refine KL2d C dX6_share_27 ?_
    refine KDdiv C (nan_vf (by rw [shr_l hrz]; exact shr_n hrz (by omega))) dX6_share_28 ?_
    refine KDret C rfl (by
      unfold P_X6_share
      rw [← hz]
      refine ⟨congrArg (fun d9 => some (Value.double d9)) ?_, (by rw [hz]; exact hM)⟩
      show _ = shr (sI T (q 80) 14) (sJ T (q 80) 15)
      unfold shr
      first | rw [if_pos (by omega)] | (rw [if_neg (by omega)]; exact shr_l hrz)) (by decide) (by decide) dX6_share_29
