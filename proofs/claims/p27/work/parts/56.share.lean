def P_X5_share (S : Sto) (q : Nat → Nat) (w : Shp) (z : Sig) : Option Value → Sto → Prop := fun v u => v = some (.double (shr (zw z) (za z))) ∧ S = u
set_option maxRecDepth 100000 in
set_option maxHeartbeats 4000000 in
theorem ct_X5_share (l : Launch) (g : GG) (S : Sto) (q : Nat → Nat) (w : Shp) (z : Sig) (hT : Top S q) (hW : Wf z) (hCw : CRw S q (gT g) w z) : MetS l g yX5_share cX5_share 1 (some FieldType.double) 1 0 0 [.ref (q 0)] S (P_X5_share S q w z) := by
  refine MetS.of (own := RX5) (lv := [(0, .ref (q 0))]) (by decide) rfl (Nat.le_of_ble_eq_true rfl) rfl ?_
  intro pX eX sX mX argsX belowX methX cX C hin
  refine KRg (fun hR => ?_)
  obtain ⟨⟨e10, e11, e12, e6, e7, e04, e05, e06⟩, -⟩ := id hCw
  have hza := hW.2.2.2.2.2.2.2.2
  have hdn := dn_le (zst z) (zo z)
  have ho40 := hW.2.1
  have hrz : inR (za z) := ⟨by omega, by omega⟩
  refine KAload_n C dX5_share_0 rfl 0 rfl ?_
  refine KGetI C ul_X5 rfl (by decide) 6 6 rfl (by decide) rfl u_fl_RX5_227 (hT.at0 0 6) (v := za z) e06 dX5_share_1 (fun _ h => h) ?_
  have rb1 := hR.b (q 0) 6 (v := za z) e06
  refine KIf_ne (tgt := 11) C dX5_share_4 (by decide) ⟨by omega, by omega⟩ (fun c4 => ?_) (fun c4 => ?_)
  · refine KAload_n C dX5_share_11 rfl 0 rfl ?_
    refine KGetI C ul_X5 rfl (by decide) 5 5 rfl (by decide) rfl u_fl_RX5_193 (hT.at0 0 6) (v := zw z) e05 dX5_share_12 (fun _ h => h) ?_
    have rb2 := hR.b (q 0) 5 (v := zw z) e05
    refine KI2d C dX5_share_15 ?_
    refine KAload_n C dX5_share_16 rfl 0 rfl ?_
    refine KGetI C ul_X5 rfl (by decide) 6 6 rfl (by decide) rfl u_fl_RX5_227 (hT.at0 0 6) (v := za z) e06 dX5_share_17 (fun _ h => h) ?_
    have rb3 := hR.b (q 0) 6 (v := za z) e06
    refine KI2d C dX5_share_20 ?_
    refine KDdiv C (nan_vf (shr_n hrz c4)) dX5_share_21 ?_
    refine KDret C rfl (by
      refine ⟨congrArg (fun d9 => some (Value.double d9)) ?_, rfl⟩
      unfold shr
      first | rw [if_pos (by omega)] | rw [if_neg (by omega)]) (by decide) (by decide) dX5_share_22
  · refine KDconst1 C dX5_share_7 ?_
    refine KGoto (tgt := 22) C dX5_share_8 (by decide) ?_
    refine KDret C rfl (by
      refine ⟨congrArg (fun d9 => some (Value.double d9)) ?_, rfl⟩
      unfold shr
      first | rw [if_pos (by omega)] | rw [if_neg (by omega)]) (by decide) (by decide) dX5_share_22
