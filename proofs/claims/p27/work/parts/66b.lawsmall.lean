def P_L_low (S : Sto) (x : Int) (n : Int) : Option Value → Sto → Prop := fun v u => v = some (.int (iI ((lowN x n : Nat) : Int))) ∧ S = u
set_option maxRecDepth 100000 in
set_option maxHeartbeats 4000000 in
theorem ct_L_low (l : Launch) (g : GG) (S : Sto) (x : Int) (n : Int) (hn : 0 < n ∧ n < 2147483648) : MetS l g yL_low cL_low 2 (some FieldType.int) 1 0 0 [.int (iI x), .int (iI n)] S (P_L_low S x n) := by
  refine MetS.of (own := RL) (lv := [(0, .int (iI x)), (1, .int (iI n))]) (by decide) rfl (Nat.le_of_ble_eq_true rfl) rfl ?_
  intro pX eX sX mX argsX belowX methX cX C hin
  refine KRg (fun hR => ?_)
  obtain ⟨y9, hy0, hy1, hy2⟩ := lo_and x
  refine KIload_n C dL_low_0 rfl 0 rfl ?_
  refine KLdc (n := 2147483647) C u_ct_RL_9 (by decide) dL_low_1 ?_
  refine KIand (v := iI y9) C dL_low_3 hy2 ?_
  refine KIload_n C dL_low_4 rfl 1 rfl ?_
  refine KIrem (z := y9 % n) C dL_low_5 ⟨by omega, by omega⟩ ⟨by omega, by omega⟩ (by omega) (tmod_pos (by omega)) ?_
  refine KIret C rfl rfl (by
    exact ⟨by rw [lowN_eq hy0 hy1 hy2 hn.1], rfl⟩) (by decide) (by decide) dL_low_6
def P_L_way (S : Sto) (q : Nat → Nat) (x : Int) (y : Int) (N : Int) (G : Int) : Option Value → Sto → Prop := fun v u => v = some (.int (iI (dst N G x y))) ∧ S = u
set_option maxRecDepth 100000 in
set_option maxHeartbeats 4000000 in
theorem ct_L_way (l : Launch) (g : GG) (S : Sto) (q : Nat → Nat) (x : Int) (y : Int) (N : Int) (G : Int) (hT : Top S q) (hNe : sI S (q 80) 6 = N) (hGe : sI S (q 80) 7 = G) (hNb : 1 ≤ N ∧ N ≤ 20) (hGb : 1 ≤ G ∧ G ≤ 9) (hx : 0 ≤ x ∧ x ≤ 700) (hy : 0 ≤ y ∧ y ≤ 700) : MetS l g yL_way cL_way 7 (some FieldType.int) 1 0 0 [.int (iI x), .int (iI y), .ref (q 80)] S (P_L_way S q x y N G) := by
  refine MetS.of (own := RL) (lv := [(0, .int (iI x)), (1, .int (iI y)), (2, .ref (q 80))]) (by decide) rfl (Nat.le_of_ble_eq_true rfl) rfl ?_
  intro pX eX sX mX argsX belowX methX cX C hin
  refine KRg (fun hR => ?_)
  refine KIload_n C dL_way_0 rfl 0 rfl ?_
  refine KBipush C dL_way_1 (by decide) ?_
  refine KIdiv (z := x / 100) C dL_way_3 ⟨by omega, by omega⟩ ⟨by omega, by omega⟩ (by omega) (tdiv_pos (by omega)) ?_
  refine KIload_n C dL_way_4 rfl 1 rfl ?_
  refine KBipush C dL_way_5 (by decide) ?_
  refine KIdiv (z := y / 100) C dL_way_7 ⟨by omega, by omega⟩ ⟨by omega, by omega⟩ (by omega) (tdiv_pos (by omega)) ?_
  refine KIcmp_le (tgt := 23) C dL_way_8 (by decide) ⟨by omega, by omega⟩ ⟨by omega, by omega⟩ (fun c8 => ?_) (fun c8 => ?_)
  · refine KIload_n C dL_way_23 rfl 1 rfl ?_
    refine KBipush C dL_way_24 (by decide) ?_
    refine KIdiv (z := y / 100) C dL_way_26 ⟨by omega, by omega⟩ ⟨by omega, by omega⟩ (by omega) (tdiv_pos (by omega)) ?_
    refine KIload_n C dL_way_27 rfl 0 rfl ?_
    refine KBipush C dL_way_28 (by decide) ?_
    refine KIdiv (z := x / 100) C dL_way_30 ⟨by omega, by omega⟩ ⟨by omega, by omega⟩ (by omega) (tdiv_pos (by omega)) ?_
    refine KIsub C dL_way_31 ?_
    refine KIstore_n (lv' := [(3, .int (iI ((y / 100) - (x / 100)))), (0, .int (iI x)), (1, .int (iI y)), (2, .ref (q 80))]) C dL_way_32 rfl (by decide) rfl ?_
    refine KIload_n C dL_way_33 rfl 1 rfl ?_
    refine KBipush C dL_way_34 (by decide) ?_
    refine KIrem (z := x % 100) C dL_way_36 ⟨by omega, by omega⟩ ⟨by omega, by omega⟩ (by omega) (tmod_pos (by omega)) ?_
    refine KIstore (lv' := [(4, .int (iI (x % 100))), (3, .int (iI ((y / 100) - (x / 100)))), (0, .int (iI x)), (1, .int (iI y)), (2, .ref (q 80))]) C dL_way_37 (by decide) rfl ?_
    refine KIload_n C dL_way_39 rfl 3 rfl ?_
    refine KBipush C dL_way_40 (by decide) ?_
    refine KIrem (z := y % 100) C dL_way_42 ⟨by omega, by omega⟩ ⟨by omega, by omega⟩ (by omega) (tmod_pos (by omega)) ?_
    refine KIstore (lv' := [(5, .int (iI (y % 100))), (4, .int (iI (x % 100))), (3, .int (iI ((y / 100) - (x / 100)))), (0, .int (iI x)), (1, .int (iI y)), (2, .ref (q 80))]) C dL_way_43 (by decide) rfl ?_
    refine KIconst C dL_way_45 ?_
    refine KAload_n C dL_way_46 rfl 5 rfl ?_
    refine KBipush C dL_way_47 (by decide) ?_
    refine KIald  (v := N) C 8 (hT.at0 80 20) (hT.ln0 80 8) ⟨by omega, by omega⟩ (by omega) hNe dL_way_49 ?_
    refine KImul C dL_way_50 ?_
    refine KIconst C dL_way_51 ?_
    refine KIadd C dL_way_52 ?_
    refine KIload C dL_way_53 1 rfl ?_
    refine KIsub C dL_way_55 ?_
    refine KIload C dL_way_56 0 rfl ?_
    refine KIsub C dL_way_58 ?_
    refine KIstore (lv' := [(6, .int (iI ((((2 * N) + 2) - (x % 100)) - (y % 100)))), (5, .int (iI (y % 100))), (4, .int (iI (x % 100))), (3, .int (iI ((y / 100) - (x / 100)))), (0, .int (iI x)), (1, .int (iI y)), (2, .ref (q 80))]) C dL_way_59 (by decide) rfl ?_
    refine KIload_n C dL_way_61 rfl 3 rfl ?_
    refine KIf_ne (tgt := 88) C dL_way_62 (by decide) ⟨by omega, by omega⟩ (fun c62 => ?_) (fun c62 => ?_)
    · refine KIload_n C dL_way_88 rfl 3 rfl ?_
      refine KAload_n C dL_way_89 rfl 6 rfl ?_
      refine KBipush C dL_way_90 (by decide) ?_
      refine KIald  (v := G) C 8 (hT.at0 80 20) (hT.ln0 80 8) ⟨by omega, by omega⟩ (by omega) hGe dL_way_92 ?_
      refine KImul C dL_way_93 ?_
      refine KIload C dL_way_94 2 rfl ?_
      refine KIload C dL_way_96 1 rfl ?_
      refine KIadd C dL_way_98 ?_
      refine KIload C dL_way_99 0 rfl ?_
      refine KIcmp_ge (tgt := 112) C dL_way_101 (by decide) ⟨by omega, by omega⟩ ⟨by omega, by omega⟩ (fun c101 => ?_) (fun c101 => ?_)
      · refine KIload C dL_way_112 0 rfl ?_
        refine KIadd C dL_way_114 ?_
        refine KIret C rfl rfl (by
          first | exact ⟨congrArg (fun z => some (Value.int (iI z))) (dst_0 (by omega) (by unfold absI; split <;> omega)).symm, rfl⟩ | exact ⟨congrArg (fun z => some (Value.int (iI z))) (dst_1 (by omega) (by unfold absI; split <;> omega) (by unfold minI; split <;> omega)).symm, rfl⟩) (by decide) (by decide) dL_way_115
      · refine KIload C dL_way_104 2 rfl ?_
        refine KIload C dL_way_106 1 rfl ?_
        refine KIadd C dL_way_108 ?_
        refine KGoto (tgt := 114) C dL_way_109 (by decide) ?_
        refine KIadd C dL_way_114 ?_
        refine KIret C rfl rfl (by
          first | exact ⟨congrArg (fun z => some (Value.int (iI z))) (dst_0 (by omega) (by unfold absI; split <;> omega)).symm, rfl⟩ | exact ⟨congrArg (fun z => some (Value.int (iI z))) (dst_1 (by omega) (by unfold absI; split <;> omega) (by unfold minI; split <;> omega)).symm, rfl⟩) (by decide) (by decide) dL_way_115
    · refine KIload C dL_way_65 2 rfl ?_
      refine KIload C dL_way_67 1 rfl ?_
      refine KIcmp_le (tgt := 80) C dL_way_69 (by decide) ⟨by omega, by omega⟩ ⟨by omega, by omega⟩ (fun c69 => ?_) (fun c69 => ?_)
      · refine KIload C dL_way_80 1 rfl ?_
        refine KIload C dL_way_82 2 rfl ?_
        refine KIsub C dL_way_84 ?_
        refine KGoto (tgt := 115) C dL_way_85 (by decide) ?_
        refine KIret C rfl rfl (by
          first | exact ⟨congrArg (fun z => some (Value.int (iI z))) (dst_0 (by omega) (by unfold absI; split <;> omega)).symm, rfl⟩ | exact ⟨congrArg (fun z => some (Value.int (iI z))) (dst_1 (by omega) (by unfold absI; split <;> omega) (by unfold minI; split <;> omega)).symm, rfl⟩) (by decide) (by decide) dL_way_115
      · refine KIload C dL_way_72 2 rfl ?_
        refine KIload C dL_way_74 1 rfl ?_
        refine KIsub C dL_way_76 ?_
        refine KGoto (tgt := 115) C dL_way_77 (by decide) ?_
        refine KIret C rfl rfl (by
          first | exact ⟨congrArg (fun z => some (Value.int (iI z))) (dst_0 (by omega) (by unfold absI; split <;> omega)).symm, rfl⟩ | exact ⟨congrArg (fun z => some (Value.int (iI z))) (dst_1 (by omega) (by unfold absI; split <;> omega) (by unfold minI; split <;> omega)).symm, rfl⟩) (by decide) (by decide) dL_way_115
  · refine KIload_n C dL_way_11 rfl 0 rfl ?_
    refine KBipush C dL_way_12 (by decide) ?_
    refine KIdiv (z := x / 100) C dL_way_14 ⟨by omega, by omega⟩ ⟨by omega, by omega⟩ (by omega) (tdiv_pos (by omega)) ?_
    refine KIload_n C dL_way_15 rfl 1 rfl ?_
    refine KBipush C dL_way_16 (by decide) ?_
    refine KIdiv (z := y / 100) C dL_way_18 ⟨by omega, by omega⟩ ⟨by omega, by omega⟩ (by omega) (tdiv_pos (by omega)) ?_
    refine KIsub C dL_way_19 ?_
    refine KGoto (tgt := 32) C dL_way_20 (by decide) ?_
    refine KIstore_n (lv' := [(3, .int (iI ((x / 100) - (y / 100)))), (0, .int (iI x)), (1, .int (iI y)), (2, .ref (q 80))]) C dL_way_32 rfl (by decide) rfl ?_
    refine KIload_n C dL_way_33 rfl 1 rfl ?_
    refine KBipush C dL_way_34 (by decide) ?_
    refine KIrem (z := x % 100) C dL_way_36 ⟨by omega, by omega⟩ ⟨by omega, by omega⟩ (by omega) (tmod_pos (by omega)) ?_
    refine KIstore (lv' := [(4, .int (iI (x % 100))), (3, .int (iI ((x / 100) - (y / 100)))), (0, .int (iI x)), (1, .int (iI y)), (2, .ref (q 80))]) C dL_way_37 (by decide) rfl ?_
    refine KIload_n C dL_way_39 rfl 3 rfl ?_
    refine KBipush C dL_way_40 (by decide) ?_
    refine KIrem (z := y % 100) C dL_way_42 ⟨by omega, by omega⟩ ⟨by omega, by omega⟩ (by omega) (tmod_pos (by omega)) ?_
    refine KIstore (lv' := [(5, .int (iI (y % 100))), (4, .int (iI (x % 100))), (3, .int (iI ((x / 100) - (y / 100)))), (0, .int (iI x)), (1, .int (iI y)), (2, .ref (q 80))]) C dL_way_43 (by decide) rfl ?_
    refine KIconst C dL_way_45 ?_
    refine KAload_n C dL_way_46 rfl 5 rfl ?_
    refine KBipush C dL_way_47 (by decide) ?_
    refine KIald  (v := N) C 8 (hT.at0 80 20) (hT.ln0 80 8) ⟨by omega, by omega⟩ (by omega) hNe dL_way_49 ?_
    refine KImul C dL_way_50 ?_
    refine KIconst C dL_way_51 ?_
    refine KIadd C dL_way_52 ?_
    refine KIload C dL_way_53 1 rfl ?_
    refine KIsub C dL_way_55 ?_
    refine KIload C dL_way_56 0 rfl ?_
    refine KIsub C dL_way_58 ?_
    refine KIstore (lv' := [(6, .int (iI ((((2 * N) + 2) - (x % 100)) - (y % 100)))), (5, .int (iI (y % 100))), (4, .int (iI (x % 100))), (3, .int (iI ((x / 100) - (y / 100)))), (0, .int (iI x)), (1, .int (iI y)), (2, .ref (q 80))]) C dL_way_59 (by decide) rfl ?_
    refine KIload_n C dL_way_61 rfl 3 rfl ?_
    refine KIf_ne (tgt := 88) C dL_way_62 (by decide) ⟨by omega, by omega⟩ (fun c62 => ?_) (fun c62 => ?_)
    · refine KIload_n C dL_way_88 rfl 3 rfl ?_
      refine KAload_n C dL_way_89 rfl 6 rfl ?_
      refine KBipush C dL_way_90 (by decide) ?_
      refine KIald  (v := G) C 8 (hT.at0 80 20) (hT.ln0 80 8) ⟨by omega, by omega⟩ (by omega) hGe dL_way_92 ?_
      refine KImul C dL_way_93 ?_
      refine KIload C dL_way_94 2 rfl ?_
      refine KIload C dL_way_96 1 rfl ?_
      refine KIadd C dL_way_98 ?_
      refine KIload C dL_way_99 0 rfl ?_
      refine KIcmp_ge (tgt := 112) C dL_way_101 (by decide) ⟨by omega, by omega⟩ ⟨by omega, by omega⟩ (fun c101 => ?_) (fun c101 => ?_)
      · refine KIload C dL_way_112 0 rfl ?_
        refine KIadd C dL_way_114 ?_
        refine KIret C rfl rfl (by
          first | exact ⟨congrArg (fun z => some (Value.int (iI z))) (dst_0 (by omega) (by unfold absI; split <;> omega)).symm, rfl⟩ | exact ⟨congrArg (fun z => some (Value.int (iI z))) (dst_1 (by omega) (by unfold absI; split <;> omega) (by unfold minI; split <;> omega)).symm, rfl⟩) (by decide) (by decide) dL_way_115
      · refine KIload C dL_way_104 2 rfl ?_
        refine KIload C dL_way_106 1 rfl ?_
        refine KIadd C dL_way_108 ?_
        refine KGoto (tgt := 114) C dL_way_109 (by decide) ?_
        refine KIadd C dL_way_114 ?_
        refine KIret C rfl rfl (by
          first | exact ⟨congrArg (fun z => some (Value.int (iI z))) (dst_0 (by omega) (by unfold absI; split <;> omega)).symm, rfl⟩ | exact ⟨congrArg (fun z => some (Value.int (iI z))) (dst_1 (by omega) (by unfold absI; split <;> omega) (by unfold minI; split <;> omega)).symm, rfl⟩) (by decide) (by decide) dL_way_115
    · refine KIload C dL_way_65 2 rfl ?_
      refine KIload C dL_way_67 1 rfl ?_
      refine KIcmp_le (tgt := 80) C dL_way_69 (by decide) ⟨by omega, by omega⟩ ⟨by omega, by omega⟩ (fun c69 => ?_) (fun c69 => ?_)
      · refine KIload C dL_way_80 1 rfl ?_
        refine KIload C dL_way_82 2 rfl ?_
        refine KIsub C dL_way_84 ?_
        refine KGoto (tgt := 115) C dL_way_85 (by decide) ?_
        refine KIret C rfl rfl (by
          first | exact ⟨congrArg (fun z => some (Value.int (iI z))) (dst_0 (by omega) (by unfold absI; split <;> omega)).symm, rfl⟩ | exact ⟨congrArg (fun z => some (Value.int (iI z))) (dst_1 (by omega) (by unfold absI; split <;> omega) (by unfold minI; split <;> omega)).symm, rfl⟩) (by decide) (by decide) dL_way_115
      · refine KIload C dL_way_72 2 rfl ?_
        refine KIload C dL_way_74 1 rfl ?_
        refine KIsub C dL_way_76 ?_
        refine KGoto (tgt := 115) C dL_way_77 (by decide) ?_
        refine KIret C rfl rfl (by
          first | exact ⟨congrArg (fun z => some (Value.int (iI z))) (dst_0 (by omega) (by unfold absI; split <;> omega)).symm, rfl⟩ | exact ⟨congrArg (fun z => some (Value.int (iI z))) (dst_1 (by omega) (by unfold absI; split <;> omega) (by unfold minI; split <;> omega)).symm, rfl⟩) (by decide) (by decide) dL_way_115
def P_L_wanted (S : Sto) (q : Nat → Nat) (o : Nat) (z : Sig) : Option Value → Sto → Prop := fun v u => v = some (.int (iI ((zW z o : Nat) : Int))) ∧ S = u
set_option maxRecDepth 100000 in
set_option maxHeartbeats 4000000 in
theorem ct_L_wanted (l : Launch) (g : GG) (S : Sto) (q : Nat → Nat) (o : Nat) (z : Sig) (hT : Top S q) (hWl : Wl z) (hm3 : ∀ o : Nat, o < zo z → sI S (q 83) ((4 * o + 3 : Nat) : Int) = zmn z (o : Int)) (hpr : sI S (q 84) = zpr z) (h12 : zo z ≤ 12) (ho : o < zo z) : MetS l g yL_wanted cL_wanted 5 (some FieldType.int) 1 0 0 [.int (iI (o : Int)), .ref (q 83), .ref (q 84)] S (P_L_wanted S q o z) := by
  refine MetS.of (own := RL) (lv := [(0, .int (iI (o : Int))), (1, .ref (q 83)), (2, .ref (q 84))]) (by decide) rfl (Nat.le_of_ble_eq_true rfl) rfl ?_
  intro pX eX sX mX argsX belowX methX cX C hin
  refine KRg (fun hR => ?_)
  obtain ⟨⟨hm1, hm2⟩, hm4⟩ := hWl.2 o ho
  have hmo := hm3 o ho
  refine KIconst C dL_wanted_0 ?_
  refine KIstore_n (lv' := [(3, .int (iI 0)), (0, .int (iI (o : Int))), (1, .ref (q 83)), (2, .ref (q 84))]) C dL_wanted_1 rfl (by decide) rfl ?_
  refine KIconst C dL_wanted_2 ?_
  refine KIstore (lv' := [(4, .int (iI 0)), (3, .int (iI 0)), (0, .int (iI (o : Int))), (1, .ref (q 83)), (2, .ref (q 84))]) C dL_wanted_3 (by decide) rfl ?_
  refine KLv (lv' := [(0, .int (iI (o : Int))), (1, .ref (q 83)), (2, .ref (q 84)), (3, .int (iI 0)), (4, .int (iI 0))]) [2, 3, 4, 1, 0] rfl ?_
  have loop5 : ∀ (nX : Nat) (k : Nat), 5 - k < nX → ((k : Int) ≤ zmn z (o : Int)) → Wk pX l eX (rmK 1 0 0) sX mX argsX belowX methX cX (MQ belowX (QcG g (P_L_wanted S q o z)) argsX sX 0 0 (ge (gB g))) g 5 0 0 5 [(0, .int (iI (o : Int))), (1, .ref (q 83)), (2, .ref (q 84)), (3, .int (iI ((wnt (zpr z) o k : Nat) : Int))), (4, .int (iI (k : Int)))] [] S := by
    intro nX
    induction nX with
    | zero => intro k hm; exact absurd hm (Nat.not_lt_zero _)
    | succ nX ih5 =>
      intro k hm5 hk
      refine KRg (fun hR => ?_)
      refine KIload C dL_wanted_5 4 rfl ?_
      refine KAload_n C dL_wanted_7 rfl 1 rfl ?_
      refine KIconst C dL_wanted_8 ?_
      refine KIload_n C dL_wanted_9 rfl 0 rfl ?_
      refine KImul C dL_wanted_10 ?_
      refine KIconst C dL_wanted_11 ?_
      refine KIadd C dL_wanted_12 ?_
      refine KTop (congrArg iI (show (4 * (o : Int)) + 3 = ((4 * o + 3 : Nat) : Int) from (by omega))) ?_
      refine KIald  (v := zmn z (o : Int)) C 48 (hT.at0 83 20) (hT.ln0 83 48) ⟨by omega, by omega⟩ (by omega) hmo dL_wanted_13 ?_
      refine KIcmp_ge (tgt := 36) C dL_wanted_14 (by decide) ⟨by omega, by omega⟩ ⟨by omega, by omega⟩ (fun c14 => ?_) (fun c14 => ?_)
      · refine KIload_n C dL_wanted_36 rfl 3 rfl ?_
        refine KIret C rfl rfl (by
          refine ⟨?_, rfl⟩
          rw [show zW z o = wnt (zpr z) o (zmn z (o : Int)).toNat from rfl, show (zmn z (o : Int)).toNat = k by omega]) (by decide) (by decide) dL_wanted_37
      · refine KIload_n C dL_wanted_17 rfl 3 rfl ?_
        refine KIconst C dL_wanted_18 ?_
        refine KAload_n C dL_wanted_19 rfl 2 rfl ?_
        refine KIconst C dL_wanted_20 ?_
        refine KIload_n C dL_wanted_21 rfl 0 rfl ?_
        refine KImul C dL_wanted_22 ?_
        refine KIload C dL_wanted_23 4 rfl ?_
        refine KIadd C dL_wanted_25 ?_
        refine KTop (congrArg iI (show (5 * (o : Int)) + (k : Int) = ((5 * o + k : Nat) : Int) from (by omega))) ?_
        refine KIald  (v := zpr z ((5 * o + k : Nat) : Int)) C 60 (hT.at0 84 20) (hT.ln0 84 60) ⟨by omega, by omega⟩ (by omega) (congrFun hpr _) dL_wanted_26 ?_
        have hp3 := hm4 k (by omega)
        refine KIshl (v := iI ((2 ^ (zpr z ((5 * o + k : Nat) : Int)).toNat : Nat) : Int)) C dL_wanted_27 (ib_shlI (by omega) (by omega)) ?_
        refine KIor (v := iI ((wnt (zpr z) o (k + 1) : Nat) : Int)) C dL_wanted_28 (ib_or _ _) ?_
        refine KIstore_n (lv' := [(3, .int (iI ((wnt (zpr z) o (k + 1) : Nat) : Int))), (0, .int (iI (o : Int))), (1, .ref (q 83)), (2, .ref (q 84)), (4, .int (iI (k : Int)))]) C dL_wanted_29 rfl (by decide) rfl ?_
        refine KIinc (v := ((k + 1 : Nat) : Int)) (lv' := [(4, .int (iI ((k + 1 : Nat) : Int))), (3, .int (iI ((wnt (zpr z) o (k + 1) : Nat) : Int))), (0, .int (iI (o : Int))), (1, .ref (q 83)), (2, .ref (q 84))]) C dL_wanted_30 4 rfl (by omega) (by decide) rfl ?_
        refine KGoto (tgt := 5) C dL_wanted_33 (by decide) ?_
        refine KLv (lv' := [(0, .int (iI (o : Int))), (1, .ref (q 83)), (2, .ref (q 84)), (3, .int (iI ((wnt (zpr z) o (k + 1) : Nat) : Int))), (4, .int (iI ((k + 1 : Nat) : Int)))]) [2, 3, 4, 1, 0] rfl ?_
        exact ih5 (k + 1) (by omega) (by omega)
  exact loop5 _ 0 (Nat.lt_succ_self _) (by omega)
def P_L_products (S : Sto) (q : Nat → Nat) (b : Int) (z : Sig) : Option Value → Sto → Prop := fun v u => v = some (.int (iI ((zpd z b : Nat) : Int))) ∧ S = u
set_option maxRecDepth 100000 in
set_option maxHeartbeats 4000000 in
theorem ct_L_products (l : Launch) (g : GG) (S : Sto) (q : Nat → Nat) (b : Int) (z : Sig) (hT : Top S q) (hW : Wf z) (hL : LR S q z) (hb : -1 ≤ b ∧ b ≤ 100) : MetS l g yL_products cL_products 6 (some FieldType.int) 2 0 0 [.int (iI b), .ref (q 83), .ref (q 84), .ref (q 80)] S (P_L_products S q b z) := by
  refine MetS.of (own := RL) (lv := [(0, .int (iI b)), (1, .ref (q 83)), (2, .ref (q 84)), (3, .ref (q 80))]) (by decide) rfl (Nat.le_of_ble_eq_true rfl) rfl ?_
  intro pX eX sX mX argsX belowX methX cX C hin
  refine KRg (fun hR => ?_)
  obtain ⟨⟨lq0, lq1, lq2, lq3, lq4, lq5, lq6, lq7⟩, ⟨lP, lpr, lqt⟩, lo, lt, l12, l6⟩ := id hL
  have hWl := hW.wl
  have hm3 : ∀ o : Nat, o < zo z → sI S (q 83) ((4 * o + 3 : Nat) : Int) = zmn z (o : Int) := fun o ho => (lo o ho).2.2.2
  refine KIconst C dL_products_0 ?_
  refine KIstore (lv' := [(4, .int (iI 0)), (0, .int (iI b)), (1, .ref (q 83)), (2, .ref (q 84)), (3, .ref (q 80))]) C dL_products_1 (by decide) rfl ?_
  refine KIconst C dL_products_3 ?_
  refine KIstore (lv' := [(5, .int (iI 0)), (4, .int (iI 0)), (0, .int (iI b)), (1, .ref (q 83)), (2, .ref (q 84)), (3, .ref (q 80))]) C dL_products_4 (by decide) rfl ?_
  refine KLv (lv' := [(0, .int (iI b)), (1, .ref (q 83)), (2, .ref (q 84)), (3, .ref (q 80)), (4, .int (iI 0)), (5, .int (iI 0))]) [2, 3, 4, 5, 1, 0] rfl ?_
  have loop6 : ∀ (nX : Nat) (k : Nat), zo z - k < nX → (k ≤ zo z) → Wk pX l eX (rmK 2 0 0) sX mX argsX belowX methX cX (MQ belowX (QcG g (P_L_products S q b z)) argsX sX 0 0 (ge (gB g))) g 6 0 0 6 [(0, .int (iI b)), (1, .ref (q 83)), (2, .ref (q 84)), (3, .ref (q 80)), (4, .int (iI ((prd (zbt z) (zW z) b k : Nat) : Int))), (5, .int (iI (k : Int)))] [] S := by
    intro nX
    induction nX with
    | zero => intro k hm; exact absurd hm (Nat.not_lt_zero _)
    | succ nX ih6 =>
      intro k hm6 hk
      refine KRg (fun hR => ?_)
      refine KIload C dL_products_6 5 rfl ?_
      refine KAload_n C dL_products_8 rfl 3 rfl ?_
      refine KIconst C dL_products_9 ?_
      refine KIald  (v := (zo z : Int)) C 8 (hT.at0 80 20) (hT.ln0 80 8) ⟨by omega, by omega⟩ (by omega) lq1 dL_products_10 ?_
      refine KIcmp_ge (tgt := 48) C dL_products_11 (by decide) ⟨by omega, by omega⟩ ⟨by omega, by omega⟩ (fun c11 => ?_) (fun c11 => ?_)
      · refine KIload C dL_products_48 4 rfl ?_
        refine KIret C rfl rfl (by
          refine ⟨?_, rfl⟩
          rw [show zpd z b = prd (zbt z) (zW z) b (zo z) from rfl, show zo z = k by omega]) (by decide) (by decide) dL_products_50
      · refine KIload C dL_products_14 4 rfl ?_
        refine KAload_n C dL_products_16 rfl 1 rfl ?_
        refine KIconst C dL_products_17 ?_
        refine KIload C dL_products_18 5 rfl ?_
        refine KImul C dL_products_20 ?_
        refine KIconst C dL_products_21 ?_
        refine KIadd C dL_products_22 ?_
        refine KTop (congrArg iI (show (4 * (k : Int)) + 2 = ((4 * k + 2 : Nat) : Int) from (by omega))) ?_
        refine KIald  (v := zbt z (k : Int)) C 48 (hT.at0 83 20) (hT.ln0 83 48) ⟨by omega, by omega⟩ (by omega) (lo k (by omega)).2.2.1 dL_products_23 ?_
        have hbk := hW.bt (show k < zo z by omega)
        refine KIload_n C dL_products_24 rfl 0 rfl ?_
        refine KIcmp_ne (tgt := 38) C dL_products_25 (by decide) ⟨by omega, by omega⟩ ⟨by omega, by omega⟩ (fun c25 => ?_) (fun c25 => ?_)
        · refine KIconst C dL_products_38 ?_
          refine KIor (v := iI ((prd (zbt z) (zW z) b (k + 1) : Nat) : Int)) C dL_products_39 (by first | exact pr_t (by omega) | exact pr_f (by omega)) ?_
          refine KIstore (lv' := [(4, .int (iI ((prd (zbt z) (zW z) b (k + 1) : Nat) : Int))), (0, .int (iI b)), (1, .ref (q 83)), (2, .ref (q 84)), (3, .ref (q 80)), (5, .int (iI (k : Int)))]) C dL_products_40 (by decide) rfl ?_
          refine KIinc (v := ((k + 1 : Nat) : Int)) (lv' := [(5, .int (iI ((k + 1 : Nat) : Int))), (4, .int (iI ((prd (zbt z) (zW z) b (k + 1) : Nat) : Int))), (0, .int (iI b)), (1, .ref (q 83)), (2, .ref (q 84)), (3, .ref (q 80))]) C dL_products_42 5 rfl (by omega) (by decide) rfl ?_
          refine KGoto (tgt := 6) C dL_products_45 (by decide) ?_
          refine KLv (lv' := [(0, .int (iI b)), (1, .ref (q 83)), (2, .ref (q 84)), (3, .ref (q 80)), (4, .int (iI ((prd (zbt z) (zW z) b (k + 1) : Nat) : Int))), (5, .int (iI ((k + 1 : Nat) : Int)))]) [2, 3, 4, 5, 1, 0] rfl ?_
          exact ih6 (k + 1) (by omega) (by omega)
        · refine KIload C dL_products_28 5 rfl ?_
          refine KAload_n C dL_products_30 rfl 1 rfl ?_
          refine KAload_n C dL_products_31 rfl 2 rfl ?_
          refine KCallS (As := [.int (iI (k : Int)), .ref (q 83), .ref (q 84)]) (st := [.int (iI ((prd (zbt z) (zW z) b k : Nat) : Int))]) C (ct_L_wanted l g S q k z hT hWl hm3 lpr (by omega) (by omega)) u_ml_RL_46 u_st_yL_wanted u_in_RL u_co_yL_wanted hd_yL_wanted ⟨Nat.le_of_ble_eq_true rfl, Nat.le_of_ble_eq_true rfl⟩ ⟨Nat.le_of_ble_eq_true rfl, Nat.le_of_ble_eq_true rfl⟩ (Nat.le_of_ble_eq_true rfl) dL_products_32 rfl (fun v32 u32 hp32 => ?_)
          obtain ⟨rfl, rfl⟩ := hp32
          refine KSt (st2 := [.int (iI ((zW z k : Nat) : Int)), .int (iI ((prd (zbt z) (zW z) b k : Nat) : Int))]) rfl ?_
          refine KGoto (tgt := 39) C dL_products_35 (by decide) ?_
          refine KIor (v := iI ((prd (zbt z) (zW z) b (k + 1) : Nat) : Int)) C dL_products_39 (by first | exact pr_t (by omega) | exact pr_f (by omega)) ?_
          refine KIstore (lv' := [(4, .int (iI ((prd (zbt z) (zW z) b (k + 1) : Nat) : Int))), (0, .int (iI b)), (1, .ref (q 83)), (2, .ref (q 84)), (3, .ref (q 80)), (5, .int (iI (k : Int)))]) C dL_products_40 (by decide) rfl ?_
          refine KIinc (v := ((k + 1 : Nat) : Int)) (lv' := [(5, .int (iI ((k + 1 : Nat) : Int))), (4, .int (iI ((prd (zbt z) (zW z) b (k + 1) : Nat) : Int))), (0, .int (iI b)), (1, .ref (q 83)), (2, .ref (q 84)), (3, .ref (q 80))]) C dL_products_42 5 rfl (by omega) (by decide) rfl ?_
          refine KGoto (tgt := 6) C dL_products_45 (by decide) ?_
          refine KLv (lv' := [(0, .int (iI b)), (1, .ref (q 83)), (2, .ref (q 84)), (3, .ref (q 80)), (4, .int (iI ((prd (zbt z) (zW z) b (k + 1) : Nat) : Int))), (5, .int (iI ((k + 1 : Nat) : Int)))]) [2, 3, 4, 5, 1, 0] rfl ?_
          exact ih6 (k + 1) (by omega) (by omega)
  exact loop6 _ 0 (Nat.lt_succ_self _) (by omega)
def P_L_lines (S : Sto) (q : Nat → Nat) (b : Int) (z : Sig) : Option Value → Sto → Prop := fun v u => v = some (.int (iI (zln z b))) ∧ S = u
set_option maxRecDepth 100000 in
set_option maxHeartbeats 4000000 in
theorem ct_L_lines (l : Launch) (g : GG) (S : Sto) (q : Nat → Nat) (b : Int) (z : Sig) (hT : Top S q) (hW : Wf z) (hL : LR S q z) (hb : -1 ≤ b ∧ b ≤ 100) : MetS l g yL_lines cL_lines 5 (some FieldType.int) 1 0 0 [.int (iI b), .ref (q 83), .ref (q 80)] S (P_L_lines S q b z) := by
  refine MetS.of (own := RL) (lv := [(0, .int (iI b)), (1, .ref (q 83)), (2, .ref (q 80))]) (by decide) rfl (Nat.le_of_ble_eq_true rfl) rfl ?_
  intro pX eX sX mX argsX belowX methX cX C hin
  refine KRg (fun hR => ?_)
  obtain ⟨⟨lq0, lq1, lq2, lq3, lq4, lq5, lq6, lq7⟩, ⟨lP, lpr, lqt⟩, lo, lt, l12, l6⟩ := id hL
  have hWl := hW.wl
  have hm3 : ∀ o : Nat, o < zo z → sI S (q 83) ((4 * o + 3 : Nat) : Int) = zmn z (o : Int) := fun o ho => (lo o ho).2.2.2
  refine KIconst C dL_lines_0 ?_
  refine KIstore_n (lv' := [(3, .int (iI 0)), (0, .int (iI b)), (1, .ref (q 83)), (2, .ref (q 80))]) C dL_lines_1 rfl (by decide) rfl ?_
  refine KIconst C dL_lines_2 ?_
  refine KIstore (lv' := [(4, .int (iI 0)), (3, .int (iI 0)), (0, .int (iI b)), (1, .ref (q 83)), (2, .ref (q 80))]) C dL_lines_3 (by decide) rfl ?_
  refine KLv (lv' := [(0, .int (iI b)), (1, .ref (q 83)), (2, .ref (q 80)), (3, .int (iI 0)), (4, .int (iI 0))]) [2, 3, 4, 1, 0] rfl ?_
  have loop5 : ∀ (nX : Nat) (k : Nat), zo z - k < nX → (k ≤ zo z) → Wk pX l eX (rmK 1 0 0) sX mX argsX belowX methX cX (MQ belowX (QcG g (P_L_lines S q b z)) argsX sX 0 0 (ge (gB g))) g 5 0 0 5 [(0, .int (iI b)), (1, .ref (q 83)), (2, .ref (q 80)), (3, .int (iI (cln (zbt z) (zmn z) b k))), (4, .int (iI (k : Int)))] [] S := by
    intro nX
    induction nX with
    | zero => intro k hm; exact absurd hm (Nat.not_lt_zero _)
    | succ nX ih5 =>
      intro k hm5 hk
      refine KRg (fun hR => ?_)
      refine KIload C dL_lines_5 4 rfl ?_
      refine KAload_n C dL_lines_7 rfl 2 rfl ?_
      refine KIconst C dL_lines_8 ?_
      refine KIald  (v := (zo z : Int)) C 8 (hT.at0 80 20) (hT.ln0 80 8) ⟨by omega, by omega⟩ (by omega) lq1 dL_lines_9 ?_
      refine KIcmp_ge (tgt := 46) C dL_lines_10 (by decide) ⟨by omega, by omega⟩ ⟨by omega, by omega⟩ (fun c10 => ?_) (fun c10 => ?_)
      · refine KIload_n C dL_lines_46 rfl 3 rfl ?_
        refine KIret C rfl rfl (by
          refine ⟨?_, rfl⟩
          rw [show zln z b = cln (zbt z) (zmn z) b (zo z) from rfl, show zo z = k by omega]) (by decide) (by decide) dL_lines_47
      · refine KIload_n C dL_lines_13 rfl 3 rfl ?_
        refine KAload_n C dL_lines_14 rfl 1 rfl ?_
        refine KIconst C dL_lines_15 ?_
        refine KIload C dL_lines_16 4 rfl ?_
        refine KImul C dL_lines_18 ?_
        refine KIconst C dL_lines_19 ?_
        refine KIadd C dL_lines_20 ?_
        refine KTop (congrArg iI (show (4 * (k : Int)) + 2 = ((4 * k + 2 : Nat) : Int) from (by omega))) ?_
        refine KIald  (v := zbt z (k : Int)) C 48 (hT.at0 83 20) (hT.ln0 83 48) ⟨by omega, by omega⟩ (by omega) (lo k (by omega)).2.2.1 dL_lines_21 ?_
        have hbk := hW.bt (show k < zo z by omega)
        refine KIload_n C dL_lines_22 rfl 0 rfl ?_
        refine KIcmp_ne (tgt := 37) C dL_lines_23 (by decide) ⟨by omega, by omega⟩ ⟨by omega, by omega⟩ (fun c23 => ?_) (fun c23 => ?_)
        · refine KIconst C dL_lines_37 ?_
          refine KIadd C dL_lines_38 ?_
          refine KTop (congrArg iI (show (cln (zbt z) (zmn z) b k) + 0 = cln (zbt z) (zmn z) b (k + 1) from (by first | exact cl_t (by omega) | exact cl_f (by omega)))) ?_
          refine KIstore_n (lv' := [(3, .int (iI (cln (zbt z) (zmn z) b (k + 1)))), (0, .int (iI b)), (1, .ref (q 83)), (2, .ref (q 80)), (4, .int (iI (k : Int)))]) C dL_lines_39 rfl (by decide) rfl ?_
          refine KIinc (v := ((k + 1 : Nat) : Int)) (lv' := [(4, .int (iI ((k + 1 : Nat) : Int))), (3, .int (iI (cln (zbt z) (zmn z) b (k + 1)))), (0, .int (iI b)), (1, .ref (q 83)), (2, .ref (q 80))]) C dL_lines_40 4 rfl (by omega) (by decide) rfl ?_
          refine KGoto (tgt := 5) C dL_lines_43 (by decide) ?_
          refine KLv (lv' := [(0, .int (iI b)), (1, .ref (q 83)), (2, .ref (q 80)), (3, .int (iI (cln (zbt z) (zmn z) b (k + 1)))), (4, .int (iI ((k + 1 : Nat) : Int)))]) [2, 3, 4, 1, 0] rfl ?_
          exact ih5 (k + 1) (by omega) (by omega)
        · refine KAload_n C dL_lines_26 rfl 1 rfl ?_
          refine KIconst C dL_lines_27 ?_
          refine KIload C dL_lines_28 4 rfl ?_
          refine KImul C dL_lines_30 ?_
          refine KIconst C dL_lines_31 ?_
          refine KIadd C dL_lines_32 ?_
          refine KTop (congrArg iI (show (4 * (k : Int)) + 3 = ((4 * k + 3 : Nat) : Int) from (by omega))) ?_
          refine KIald  (v := zmn z (k : Int)) C 48 (hT.at0 83 20) (hT.ln0 83 48) ⟨by omega, by omega⟩ (by omega) (lo k (by omega)).2.2.2 dL_lines_33 ?_
          refine KGoto (tgt := 38) C dL_lines_34 (by decide) ?_
          refine KIadd C dL_lines_38 ?_
          refine KTop (congrArg iI (show (cln (zbt z) (zmn z) b k) + (zmn z (k : Int)) = cln (zbt z) (zmn z) b (k + 1) from (by first | exact cl_t (by omega) | exact cl_f (by omega)))) ?_
          refine KIstore_n (lv' := [(3, .int (iI (cln (zbt z) (zmn z) b (k + 1)))), (0, .int (iI b)), (1, .ref (q 83)), (2, .ref (q 80)), (4, .int (iI (k : Int)))]) C dL_lines_39 rfl (by decide) rfl ?_
          refine KIinc (v := ((k + 1 : Nat) : Int)) (lv' := [(4, .int (iI ((k + 1 : Nat) : Int))), (3, .int (iI (cln (zbt z) (zmn z) b (k + 1)))), (0, .int (iI b)), (1, .ref (q 83)), (2, .ref (q 80))]) C dL_lines_40 4 rfl (by omega) (by decide) rfl ?_
          refine KGoto (tgt := 5) C dL_lines_43 (by decide) ?_
          refine KLv (lv' := [(0, .int (iI b)), (1, .ref (q 83)), (2, .ref (q 80)), (3, .int (iI (cln (zbt z) (zmn z) b (k + 1)))), (4, .int (iI ((k + 1 : Nat) : Int)))]) [2, 3, 4, 1, 0] rfl ?_
          exact ih5 (k + 1) (by omega) (by omega)
  exact loop5 _ 0 (Nat.lt_succ_self _) (by omega)
def P_L_next (S : Sto) (q : Nat → Nat) (n : Nat) : Option Value → Sto → Prop := fun v u => (kfL (gtF (sI S (q 88))) (n - 1) = 0 ∧ v = some (.int (iI 0)) ∧ S = u) ∨ ∃ k : Nat, kfL (gtF (sI S (q 88))) (n - 1) = k + 1 ∧ v = some (.int (iI 1)) ∧ u = wI S (row1 (sI S) (q 88) (nxF (sI S (q 88)) (n : Int) (k : Int) ((jfL (ltF (sI S (q 88)) k) (n - 1) : Nat) : Int)))
set_option maxRecDepth 100000 in
set_option maxHeartbeats 4000000 in
theorem ct_L_next (l : Launch) (g : GG) (S : Sto) (q : Nat → Nat) (n : Nat) (hT : Top S q) (hn9 : n ≤ 9) (hds : ∀ i j : Nat, i < n → j < n → sI S (q 88) (i : Int) = sI S (q 88) (j : Int) → i = j) : MetS l g yL_next cL_next 7 (some FieldType.boolean) 1 0 0 [.ref (q 88), .int (iI (n : Int))] S (P_L_next S q n) := by
  refine MetS.of (own := RL) (lv := [(0, .ref (q 88)), (1, .int (iI (n : Int)))]) (by decide) rfl (Nat.le_of_ble_eq_true rfl) rfl ?_
  intro pX eX sX mX argsX belowX methX cX C hin
  refine KRg (fun hR => ?_)
  refine KIload_n C dL_next_0 rfl 1 rfl ?_
  refine KIconst C dL_next_1 ?_
  refine KIsub C dL_next_2 ?_
  refine KIstore_n (lv' := [(2, .int (iI ((n : Int) - 2))), (0, .ref (q 88)), (1, .int (iI (n : Int)))]) C dL_next_3 rfl (by decide) rfl ?_
  refine KLv (lv' := [(0, .ref (q 88)), (1, .int (iI (n : Int))), (2, .int (iI ((n : Int) - 2)))]) [1, 2, 0] rfl ?_
  have loop4 : ∀ (nX : Nat) (kk : Int) (m : Nat), m < nX → (m ≤ n - 1) → (kk = (m : Int) - 1 ∨ (kk = -2 ∧ n = 0 ∧ m = 0)) → (kfL (gtF (sI S (q 88))) m = kfL (gtF (sI S (q 88))) (n - 1)) → Wk pX l eX (rmK 1 0 0) sX mX argsX belowX methX cX (MQ belowX (QcG g (P_L_next S q n)) argsX sX 0 0 (ge (gB g))) g 7 0 0 4 [(0, .ref (q 88)), (1, .int (iI (n : Int))), (2, .int (iI kk))] [] S := by
    intro nX
    induction nX with
    | zero => intro kk m hm; exact absurd hm (Nat.not_lt_zero _)
    | succ nX ih4 =>
      intro kk m hm4 hm hkk hkf
      refine KRg (fun hR => ?_)
      refine KIload_n C dL_next_4 rfl 2 rfl ?_
      refine KIf_lt (tgt := 25) C dL_next_5 (by decide) ⟨by omega, by omega⟩ (fun c5 => ?_) (fun c5 => ?_)
      · refine KIload_n C dL_next_25 rfl 2 rfl ?_
        refine KIf_ge (tgt := 31) C dL_next_26 (by decide) ⟨by omega, by omega⟩ (fun c26 => absurd c26 (by omega)) (fun c26 => ?_)
        have hz9 : m = 0 := by omega
        have hz8 : kfL (gtF (sI S (q 88))) (n - 1) = 0 := by rw [← hkf, hz9]; rfl
        refine KIconst C dL_next_29 ?_
        refine KIret C rfl rfl (by
          exact Or.inl ⟨hz8, rfl, rfl⟩) (by decide) (by decide) dL_next_30
      · obtain ⟨k9, rfl⟩ : ∃ k9 : Nat, m = k9 + 1 := ⟨m - 1, by omega⟩
        have ek : kk = (k9 : Int) := by omega
        refine KLvE (lv2 := [(0, .ref (q 88)), (1, .int (iI (n : Int))), (2, .int (iI (k9 : Int)))]) (congrArg (fun zz : Int => ([(0, .ref (q 88)), (1, .int (iI (n : Int))), (2, .int (iI zz))] : List (Nat × Value))) (show (kk : Int) = (k9 : Int) from ek)) ?_
        refine KAload_n C dL_next_8 rfl 0 rfl ?_
        refine KIload_n C dL_next_9 rfl 2 rfl ?_
        refine KIald  (v := sI S (q 88) (k9 : Int)) C 9 (hT.at0 88 20) (hT.ln0 88 9) ⟨by omega, by omega⟩ (by omega) rfl dL_next_10 ?_
        have rb1 := hR.b (q 88) (k9 : Int) (v := sI S (q 88) (k9 : Int)) rfl
        refine KAload_n C dL_next_11 rfl 0 rfl ?_
        refine KIload_n C dL_next_12 rfl 2 rfl ?_
        refine KIconst C dL_next_13 ?_
        refine KIadd C dL_next_14 ?_
        refine KTop (congrArg iI (show (k9 : Int) + 1 = ((k9 + 1 : Nat) : Int) from (by omega))) ?_
        refine KIald  (v := sI S (q 88) ((k9 + 1 : Nat) : Int)) C 9 (hT.at0 88 20) (hT.ln0 88 9) ⟨by omega, by omega⟩ (by omega) rfl dL_next_15 ?_
        have rb2 := hR.b (q 88) ((k9 + 1 : Nat) : Int) (v := sI S (q 88) ((k9 + 1 : Nat) : Int)) rfl
        refine KIcmp_le (tgt := 25) C dL_next_16 (by decide) ⟨by omega, by omega⟩ ⟨by omega, by omega⟩ (fun c16 => ?_) (fun c16 => ?_)
        · have hdn : sI S (q 88) (k9 : Int) < sI S (q 88) ((k9 + 1 : Nat) : Int) := by rcases Int.lt_or_eq_of_le (show sI S (q 88) (k9 : Int) ≤ sI S (q 88) ((k9 + 1 : Nat) : Int) by omega) with h9 | h9; exact h9; exact absurd (hds k9 (k9 + 1) (by omega) (by omega) h9) (by omega)
          have hkv : kfL (gtF (sI S (q 88))) (n - 1) = k9 + 1 := by rw [← hkf]; exact kfL_f (by omega)
          refine KIload_n C dL_next_25 rfl 2 rfl ?_
          refine KIf_ge (tgt := 31) C dL_next_26 (by decide) ⟨by omega, by omega⟩ (fun c26 => ?_) (fun c26 => absurd c26 (by omega))
          refine KIload_n C dL_next_31 rfl 1 rfl ?_
          refine KIconst C dL_next_32 ?_
          refine KIsub C dL_next_33 ?_
          refine KTop (congrArg iI (show (n : Int) - 1 = ((n - 1 : Nat) : Int) from (by omega))) ?_
          refine KIstore_n (lv' := [(3, .int (iI ((n - 1 : Nat) : Int))), (0, .ref (q 88)), (1, .int (iI (n : Int))), (2, .int (iI (k9 : Int)))]) C dL_next_34 rfl (by decide) rfl ?_
          refine KLv (lv' := [(0, .ref (q 88)), (1, .int (iI (n : Int))), (2, .int (iI (k9 : Int))), (3, .int (iI ((n - 1 : Nat) : Int)))]) [1, 2, 3, 0] rfl ?_
          have loop35 : ∀ (nX : Nat) (i : Nat), i < nX → (i ≤ n - 1) → (k9 + 1 ≤ i) → (jfL (ltF (sI S (q 88)) k9) i = jfL (ltF (sI S (q 88)) k9) (n - 1)) → Wk pX l eX (rmK 1 0 0) sX mX argsX belowX methX cX (MQ belowX (QcG g (P_L_next S q n)) argsX sX 0 0 (ge (gB g))) g 7 0 0 35 [(0, .ref (q 88)), (1, .int (iI (n : Int))), (2, .int (iI (k9 : Int))), (3, .int (iI (i : Int)))] [] S := by
            intro nX
            induction nX with
            | zero => intro i hm; exact absurd hm (Nat.not_lt_zero _)
            | succ nX ih35 =>
              intro i hm35 hi hik hjf
              refine KRg (fun hR => ?_)
              refine KAload_n C dL_next_35 rfl 0 rfl ?_
              refine KIload_n C dL_next_36 rfl 3 rfl ?_
              refine KIald  (v := sI S (q 88) (i : Int)) C 9 (hT.at0 88 20) (hT.ln0 88 9) ⟨by omega, by omega⟩ (by omega) rfl dL_next_37 ?_
              have rb3 := hR.b (q 88) (i : Int) (v := sI S (q 88) (i : Int)) rfl
              refine KAload_n C dL_next_38 rfl 0 rfl ?_
              refine KIload_n C dL_next_39 rfl 2 rfl ?_
              refine KIald  (v := sI S (q 88) (k9 : Int)) C 9 (hT.at0 88 20) (hT.ln0 88 9) ⟨by omega, by omega⟩ (by omega) rfl dL_next_40 ?_
              have rb4 := hR.b (q 88) (k9 : Int) (v := sI S (q 88) (k9 : Int)) rfl
              refine KIcmp_ge (tgt := 50) C dL_next_41 (by decide) ⟨by omega, by omega⟩ ⟨by omega, by omega⟩ (fun c41 => ?_) (fun c41 => ?_)
              · have hiv : jfL (ltF (sI S (q 88)) k9) (n - 1) = i := by rw [← hjf]; exact jfL_f (by omega) (by omega)
                refine KAload_n C dL_next_50 rfl 0 rfl ?_
                refine KIload_n C dL_next_51 rfl 2 rfl ?_
                refine KIald  (v := sI S (q 88) (k9 : Int)) C 9 (hT.at0 88 20) (hT.ln0 88 9) ⟨by omega, by omega⟩ (by omega) rfl dL_next_52 ?_
                have rb5 := hR.b (q 88) (k9 : Int) (v := sI S (q 88) (k9 : Int)) rfl
                refine KIstore (lv' := [(4, .int (iI (sI S (q 88) (k9 : Int)))), (0, .ref (q 88)), (1, .int (iI (n : Int))), (2, .int (iI (k9 : Int))), (3, .int (iI (i : Int)))]) C dL_next_53 (by decide) rfl ?_
                refine KAload_n C dL_next_55 rfl 1 rfl ?_
                refine KIload_n C dL_next_56 rfl 3 rfl ?_
                refine KAload_n C dL_next_57 rfl 1 rfl ?_
                refine KIload_n C dL_next_58 rfl 4 rfl ?_
                refine KIald  (v := sI S (q 88) (i : Int)) C 9 (hT.at0 88 20) (hT.ln0 88 9) ⟨by omega, by omega⟩ (by omega) rfl dL_next_59 ?_
                have rb6 := hR.b (q 88) (i : Int) (v := sI S (q 88) (i : Int)) rfl
                refine KIast C 9 (hT.at0 88 20) (hT.ln0 88 9) ⟨by omega, by omega⟩ (by omega) ⟨by omega, by omega⟩ dL_next_60 ?_
                refine KAload_n C dL_next_61 rfl 1 rfl ?_
                refine KIload_n C dL_next_62 rfl 4 rfl ?_
                refine KIload C dL_next_63 0 rfl ?_
                refine KIast (S := uI S (q 88) (k9 : Int) (sI S (q 88) (i : Int))) C 9 (hT.at0 88 20) (hT.ln0 88 9) ⟨by omega, by omega⟩ (by omega) ⟨by omega, by omega⟩ dL_next_65 ?_
                refine KSto (S2 := wI S (row1 (sI S) (q 88) (swF (sI S (q 88)) (k9 : Int) (i : Int)))) (congrArg (wI S) ((up2_2row _ _ _ _ _ _).trans (congrArg (row1 (sI S) (q 88)) (swF_up _ _ _)))) ?_
                refine KIload_n C dL_next_66 rfl 3 rfl ?_
                refine KIconst C dL_next_67 ?_
                refine KIadd C dL_next_68 ?_
                refine KTop (congrArg iI (show (k9 : Int) + 1 = ((k9 + 1 : Nat) : Int) from (by omega))) ?_
                refine KIstore (lv' := [(5, .int (iI ((k9 + 1 : Nat) : Int))), (4, .int (iI (sI S (q 88) (k9 : Int)))), (0, .ref (q 88)), (1, .int (iI (n : Int))), (2, .int (iI (k9 : Int))), (3, .int (iI (i : Int)))]) C dL_next_69 (by decide) rfl ?_
                refine KIload_n C dL_next_71 rfl 3 rfl ?_
                refine KIconst C dL_next_72 ?_
                refine KIsub C dL_next_73 ?_
                refine KTop (congrArg iI (show (n : Int) - 1 = ((k9 + n - (k9 + 1) : Nat) : Int) from (by omega))) ?_
                refine KIstore (lv' := [(6, .int (iI ((k9 + n - (k9 + 1) : Nat) : Int))), (5, .int (iI ((k9 + 1 : Nat) : Int))), (4, .int (iI (sI S (q 88) (k9 : Int)))), (0, .ref (q 88)), (1, .int (iI (n : Int))), (2, .int (iI (k9 : Int))), (3, .int (iI (i : Int)))]) C dL_next_74 (by decide) rfl ?_
                refine KSto (S2 := wI S (row1 (sI S) (q 88) (rvP (swF (sI S (q 88)) (k9 : Int) (i : Int)) (k9 : Int) (n : Int) ((k9 + 1 : Nat) : Int)))) (by rw [show ((k9 + 1 : Nat) : Int) = (k9 : Int) + 1 by omega, rvP_0]) ?_
                refine KLv (lv' := [(0, .ref (q 88)), (1, .int (iI (n : Int))), (2, .int (iI (k9 : Int))), (3, .int (iI (i : Int))), (5, .int (iI ((k9 + 1 : Nat) : Int))), (6, .int (iI ((k9 + n - (k9 + 1) : Nat) : Int)))]) [3, 4, 5, 6, 1, 0] rfl ?_
                have loop76 : ∀ (nX : Nat) (a : Nat), n - a < nX → (k9 + 1 ≤ a) → (2 * a ≤ k9 + n + 1) → Wk pX l eX (rmK 1 0 0) sX mX argsX belowX methX cX (MQ belowX (QcG g (P_L_next S q n)) argsX sX 0 0 (ge (gB g))) g 7 0 0 76 [(0, .ref (q 88)), (1, .int (iI (n : Int))), (2, .int (iI (k9 : Int))), (3, .int (iI (i : Int))), (5, .int (iI (a : Int))), (6, .int (iI ((k9 + n - a : Nat) : Int)))] [] (wI S (row1 (sI S) (q 88) (rvP (swF (sI S (q 88)) (k9 : Int) (i : Int)) (k9 : Int) (n : Int) (a : Int)))) := by
                  intro nX
                  induction nX with
                  | zero => intro a hm; exact absurd hm (Nat.not_lt_zero _)
                  | succ nX ih76 =>
                    intro a hm76 ha1 ha2
                    refine KRg (fun hR => ?_)
                    refine KIload C dL_next_76 4 rfl ?_
                    refine KIload C dL_next_78 5 rfl ?_
                    refine KIcmp_ge (tgt := 112) C dL_next_80 (by decide) ⟨by omega, by omega⟩ ⟨by omega, by omega⟩ (fun c80 => ?_) (fun c80 => ?_)
                    · have hre := rvP_end (F := sI S (q 88)) (k := (k9 : Int)) (n := (n : Int)) (i := (i : Int)) (a := (a : Int)) (by omega) (by omega) (by omega)
                      refine KIconst C dL_next_112 ?_
                      refine KIret C rfl rfl (by
                        exact Or.inr ⟨k9, hkv, rfl, by rw [hiv, hre]⟩) (by decide) (by decide) dL_next_113
                    · refine KAload_n C dL_next_83 rfl 0 rfl ?_
                      refine KIload C dL_next_84 4 rfl ?_
                      refine KIald (S := wI S (row1 (sI S) (q 88) (rvP (swF (sI S (q 88)) (k9 : Int) (i : Int)) (k9 : Int) (n : Int) (a : Int))))  (v := rvP (swF (sI S (q 88)) (k9 : Int) (i : Int)) (k9 : Int) (n : Int) (a : Int) (a : Int)) C 9 (hT.at0 88 20) (hT.ln0 88 9) ⟨by omega, by omega⟩ (by omega) (row1_same _ _ _ _) dL_next_86 ?_
                      have rb7 := hR.b (q 88) (a : Int) (v := rvP (swF (sI S (q 88)) (k9 : Int) (i : Int)) (k9 : Int) (n : Int) (a : Int) (a : Int)) (row1_same _ _ _ _)
                      refine KIstore (lv' := [(4, .int (iI (rvP (swF (sI S (q 88)) (k9 : Int) (i : Int)) (k9 : Int) (n : Int) (a : Int) (a : Int)))), (0, .ref (q 88)), (1, .int (iI (n : Int))), (2, .int (iI (k9 : Int))), (3, .int (iI (i : Int))), (5, .int (iI (a : Int))), (6, .int (iI ((k9 + n - a : Nat) : Int)))]) C dL_next_87 (by decide) rfl ?_
                      refine KAload_n C dL_next_89 rfl 1 rfl ?_
                      refine KIload C dL_next_90 5 rfl ?_
                      refine KAload_n C dL_next_92 rfl 1 rfl ?_
                      refine KIload C dL_next_93 6 rfl ?_
                      refine KIald (S := wI S (row1 (sI S) (q 88) (rvP (swF (sI S (q 88)) (k9 : Int) (i : Int)) (k9 : Int) (n : Int) (a : Int))))  (v := rvP (swF (sI S (q 88)) (k9 : Int) (i : Int)) (k9 : Int) (n : Int) (a : Int) ((k9 + n - a : Nat) : Int)) C 9 (hT.at0 88 20) (hT.ln0 88 9) ⟨by omega, by omega⟩ (by omega) (row1_same _ _ _ _) dL_next_95 ?_
                      have rb8 := hR.b (q 88) ((k9 + n - a : Nat) : Int) (v := rvP (swF (sI S (q 88)) (k9 : Int) (i : Int)) (k9 : Int) (n : Int) (a : Int) ((k9 + n - a : Nat) : Int)) (row1_same _ _ _ _)
                      refine KIast (S := wI S (row1 (sI S) (q 88) (rvP (swF (sI S (q 88)) (k9 : Int) (i : Int)) (k9 : Int) (n : Int) (a : Int)))) C 9 (hT.at0 88 20) (hT.ln0 88 9) ⟨by omega, by omega⟩ (by omega) ⟨by omega, by omega⟩ dL_next_96 ?_
                      refine KAload_n C dL_next_97 rfl 1 rfl ?_
                      refine KIload C dL_next_98 6 rfl ?_
                      refine KIload C dL_next_100 0 rfl ?_
                      refine KIast (S := uI (wI S (row1 (sI S) (q 88) (rvP (swF (sI S (q 88)) (k9 : Int) (i : Int)) (k9 : Int) (n : Int) (a : Int)))) (q 88) (a : Int) (rvP (swF (sI S (q 88)) (k9 : Int) (i : Int)) (k9 : Int) (n : Int) (a : Int) ((k9 + n - a : Nat) : Int))) C 9 (hT.at0 88 20) (hT.ln0 88 9) ⟨by omega, by omega⟩ (by omega) ⟨by omega, by omega⟩ dL_next_102 ?_
                      refine KSto (S2 := wI S (row1 (sI S) (q 88) (rvP (swF (sI S (q 88)) (k9 : Int) (i : Int)) (k9 : Int) (n : Int) ((a + 1 : Nat) : Int)))) (congrArg (wI S) ((up2_2row1 _ _ _ _ _ _ _).trans (congrArg (row1 (sI S) (q 88)) (rvP_step2 (by omega) (by omega) (by omega) (by omega) (by omega))))) ?_
                      refine KIinc (v := ((k9 + n - (a + 1) : Nat) : Int)) (lv' := [(6, .int (iI ((k9 + n - (a + 1) : Nat) : Int))), (4, .int (iI (rvP (swF (sI S (q 88)) (k9 : Int) (i : Int)) (k9 : Int) (n : Int) (a : Int) (a : Int)))), (0, .ref (q 88)), (1, .int (iI (n : Int))), (2, .int (iI (k9 : Int))), (3, .int (iI (i : Int))), (5, .int (iI (a : Int)))]) C dL_next_103 6 rfl (by omega) (by decide) rfl ?_
                      refine KIinc (v := ((a + 1 : Nat) : Int)) (lv' := [(5, .int (iI ((a + 1 : Nat) : Int))), (6, .int (iI ((k9 + n - (a + 1) : Nat) : Int))), (4, .int (iI (rvP (swF (sI S (q 88)) (k9 : Int) (i : Int)) (k9 : Int) (n : Int) (a : Int) (a : Int)))), (0, .ref (q 88)), (1, .int (iI (n : Int))), (2, .int (iI (k9 : Int))), (3, .int (iI (i : Int)))]) C dL_next_106 6 rfl (by omega) (by decide) rfl ?_
                      refine KGoto (tgt := 76) C dL_next_109 (by decide) ?_
                      refine KLv (lv' := [(0, .ref (q 88)), (1, .int (iI (n : Int))), (2, .int (iI (k9 : Int))), (3, .int (iI (i : Int))), (5, .int (iI ((a + 1 : Nat) : Int))), (6, .int (iI ((k9 + n - (a + 1) : Nat) : Int)))]) [3, 4, 5, 6, 0, 1] rfl ?_
                      exact ih76 (a + 1) (by omega) (by omega) (by omega)
                exact loop76 _ (k9 + 1) (Nat.lt_succ_self _) (by omega) (by omega)
              · have hlt : sI S (q 88) (i : Int) < sI S (q 88) (k9 : Int) := by omega
                have hne : i ≠ k9 + 1 := fun e9 => by rw [e9] at hlt; omega
                refine KIinc (v := ((i - 1 : Nat) : Int)) (lv' := [(3, .int (iI ((i - 1 : Nat) : Int))), (0, .ref (q 88)), (1, .int (iI (n : Int))), (2, .int (iI (k9 : Int)))]) C dL_next_44 3 rfl (by omega) (by decide) rfl ?_
                refine KGoto (tgt := 35) C dL_next_47 (by decide) ?_
                refine KLv (lv' := [(0, .ref (q 88)), (1, .int (iI (n : Int))), (2, .int (iI (k9 : Int))), (3, .int (iI ((i - 1 : Nat) : Int)))]) [1, 2, 3, 0] rfl ?_
                exact ih35 (i - 1) (by omega) (by omega) (by omega) (by rw [← hjf]; exact (jfL_t (by omega) hlt).symm)
          exact loop35 _ (n - 1) (Nat.lt_succ_self _) (by omega) (by omega) rfl
        · have hgt : sI S (q 88) ((k9 + 1 : Nat) : Int) < sI S (q 88) (k9 : Int) := by omega
          refine KIinc (v := (k9 : Int) - 1) (lv' := [(2, .int (iI ((k9 : Int) - 1))), (0, .ref (q 88)), (1, .int (iI (n : Int)))]) C dL_next_19 2 rfl (by omega) (by decide) rfl ?_
          refine KGoto (tgt := 4) C dL_next_22 (by decide) ?_
          refine KLv (lv' := [(0, .ref (q 88)), (1, .int (iI (n : Int))), (2, .int (iI ((k9 : Int) - 1)))]) [1, 2, 0] rfl ?_
          exact ih4 ((k9 : Int) - 1) k9 (by omega) (by omega) (by omega) (by rw [← hkf]; exact (kfL_t hgt).symm)
  exact loop4 _ ((n : Int) - 2) (n - 1) (Nat.lt_succ_self _) (by omega) (by omega) rfl
