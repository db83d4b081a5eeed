section
variable {pX : Program} {l : Launch} {eX : Env} {sX : State} {mX : MethodId} {argsX : Array Value} {belowX : List Frame} {methX : Method} {cX : Code} {QX : State → Prop} {g : GG} {cells slots b0 : Nat} {S : Sto} {q : Nat → Nat}
set_option maxRecDepth 100000 in
set_option maxHeartbeats 4000000 in
theorem sg_plan2 (hnt : l.stackTraces = false) (C : Cx pX l sX mX argsX methX cX cL_law 22 RL ret g) (hnc : Ncs sX) (hc : cells + 475 ≤ 600128 ∧ slots + 4890 ≤ 7301064) (e9 : Int) (tn a9 p9 o9 : Nat) (z : Sig) (R : Int → Int) (hI : LI S q (gT g) z z R) (hW : Wf z) (hp9 : p9 < 20) (ho9 : o9 ≤ zo z) (t9 : Int) (ht9 : 0 ≤ t9 ∧ t9 ≤ 999) (kk : Nxt pX l eX sX mX argsX belowX methX cX QX g q b0 e9 (tn : Int) cells slots) : Wk pX l eX room_1 sX mX argsX belowX methX cX QX g 22 cells slots 741 [(0, .ref b0), (1, .ref (q 80)), (2, .int (iI e9)), (3, .ref (q 0)), (4, .ref (q 81)), (5, .ref (q 82)), (6, .ref (q 83)), (7, .ref (q 84)), (8, .ref (q 85)), (9, .ref (q 86)), (10, .ref (q 87)), (11, .ref (q 88)), (12, .int (iI (tn : Int))), (13, .int (iI (a9 : Int))), (14, .int (iI (p9 : Int))), (15, .int (iI (o9 : Int))), (16, .int (iI 0)), (17, .int (iI 0)), (18, .int (iI t9))] [] S := by
  refine KRg (fun hR => ?_)
  obtain ⟨h12, h6c⟩ := hI.l12
  have hC := hW.1
  have hbo := hW.2.1.2
  refine KIconst C dL_law_741 ?_
  refine KIstore (lv' := [(19, .int (iI 0)), (0, .ref b0), (1, .ref (q 80)), (2, .int (iI e9)), (3, .ref (q 0)), (4, .ref (q 81)), (5, .ref (q 82)), (6, .ref (q 83)), (7, .ref (q 84)), (8, .ref (q 85)), (9, .ref (q 86)), (10, .ref (q 87)), (11, .ref (q 88)), (12, .int (iI (tn : Int))), (13, .int (iI (a9 : Int))), (14, .int (iI (p9 : Int))), (15, .int (iI (o9 : Int))), (16, .int (iI 0)), (17, .int (iI 0)), (18, .int (iI t9))]) C dL_law_742 (by decide) rfl ?_
  refine KIconst C dL_law_744 ?_
  refine KIstore (lv' := [(20, .int (iI 0)), (19, .int (iI 0)), (0, .ref b0), (1, .ref (q 80)), (2, .int (iI e9)), (3, .ref (q 0)), (4, .ref (q 81)), (5, .ref (q 82)), (6, .ref (q 83)), (7, .ref (q 84)), (8, .ref (q 85)), (9, .ref (q 86)), (10, .ref (q 87)), (11, .ref (q 88)), (12, .int (iI (tn : Int))), (13, .int (iI (a9 : Int))), (14, .int (iI (p9 : Int))), (15, .int (iI (o9 : Int))), (16, .int (iI 0)), (17, .int (iI 0)), (18, .int (iI t9))]) C dL_law_745 (by decide) rfl ?_
  refine KLv (lv' := [(0, .ref b0), (1, .ref (q 80)), (2, .int (iI e9)), (3, .ref (q 0)), (4, .ref (q 81)), (5, .ref (q 82)), (6, .ref (q 83)), (7, .ref (q 84)), (8, .ref (q 85)), (9, .ref (q 86)), (10, .ref (q 87)), (11, .ref (q 88)), (12, .int (iI (tn : Int))), (13, .int (iI (a9 : Int))), (14, .int (iI (p9 : Int))), (15, .int (iI (o9 : Int))), (16, .int (iI 0)), (17, .int (iI 0)), (18, .int (iI t9)), (19, .int (iI 0)), (20, .int (iI 0))]) [2, 3, 4, 5, 6, 7, 8, 9, 10, 11, 12, 13, 14, 15, 16, 17, 18, 19, 20, 1, 0] rfl ?_
  have loop747 : ∀ (nX : Nat) (k : Nat), zo z - k < nX → (k ≤ zo z) → Wk pX l eX room_1 sX mX argsX belowX methX cX QX g 22 cells slots 747 [(0, .ref b0), (1, .ref (q 80)), (2, .int (iI e9)), (3, .ref (q 0)), (4, .ref (q 81)), (5, .ref (q 82)), (6, .ref (q 83)), (7, .ref (q 84)), (8, .ref (q 85)), (9, .ref (q 86)), (10, .ref (q 87)), (11, .ref (q 88)), (12, .int (iI (tn : Int))), (13, .int (iI (a9 : Int))), (14, .int (iI (p9 : Int))), (15, .int (iI (o9 : Int))), (16, .int (iI 0)), (17, .int (iI 0)), (18, .int (iI t9)), (19, .int (iI (smI z t9 k))), (20, .int (iI (k : Int)))] [] S := by
    intro nX
    induction nX with
    | zero => intro k hm; exact absurd hm (Nat.not_lt_zero _)
    | succ nX ih747 =>
      intro k hm747 hk
      refine KRg (fun hR => ?_)
      have hsm := smI_b z t9 k
      refine KIload C dL_law_747 20 rfl ?_
      refine KAload_n C dL_law_749 rfl 1 rfl ?_
      refine KIconst C dL_law_750 ?_
      refine KIald  (v := (zo z : Int)) C 8 (hI.1.at0 80 20) (hI.1.ln0 80 8) ⟨by omega, by omega⟩ (by omega) hI.q1 dL_law_751 ?_
      refine KIcmp_ge (tgt := 809) C dL_law_752 (by decide) ⟨by omega, by omega⟩ ⟨by omega, by omega⟩ (fun c752 => ?_) (fun c752 => ?_)
      · have hkz : k = zo z := by omega
        rw [hkz] at hsm
        refine KLvE (lv2 := [(0, .ref b0), (1, .ref (q 80)), (2, .int (iI e9)), (3, .ref (q 0)), (4, .ref (q 81)), (5, .ref (q 82)), (6, .ref (q 83)), (7, .ref (q 84)), (8, .ref (q 85)), (9, .ref (q 86)), (10, .ref (q 87)), (11, .ref (q 88)), (12, .int (iI (tn : Int))), (13, .int (iI (a9 : Int))), (14, .int (iI (p9 : Int))), (15, .int (iI (o9 : Int))), (16, .int (iI 0)), (17, .int (iI 0)), (18, .int (iI t9)), (19, .int (iI (smI z t9 (zo z)))), (20, .int (iI (k : Int)))]) (congrArg (fun zz : Int => ([(0, .ref b0), (1, .ref (q 80)), (2, .int (iI e9)), (3, .ref (q 0)), (4, .ref (q 81)), (5, .ref (q 82)), (6, .ref (q 83)), (7, .ref (q 84)), (8, .ref (q 85)), (9, .ref (q 86)), (10, .ref (q 87)), (11, .ref (q 88)), (12, .int (iI (tn : Int))), (13, .int (iI (a9 : Int))), (14, .int (iI (p9 : Int))), (15, .int (iI (o9 : Int))), (16, .int (iI 0)), (17, .int (iI 0)), (18, .int (iI t9)), (19, .int (iI zz)), (20, .int (iI (k : Int)))] : List (Nat × Value))) (show (smI z t9 k : Int) = smI z t9 (zo z) from (by rw [hkz]))) ?_
        refine KIload C dL_law_809 19 rfl ?_
        refine KIf_eq (tgt := 824) C dL_law_811 (by decide) ⟨by omega, by omega⟩ (fun c811 => ?_) (fun c811 => ?_)
        · have htk0 : tkN z t9 (zo z) = 0 := by have h9 := (smI_tk z t9 (zo z)); have h8 := tkN_b z t9 (zo z); omega
          have hoP := ho_Pw0 (z := z) ht9 (Or.inr htk0)
          refine KIconst C dL_law_824 ?_
          refine KIstore (lv' := [(20, .int (iI 0)), (0, .ref b0), (1, .ref (q 80)), (2, .int (iI e9)), (3, .ref (q 0)), (4, .ref (q 81)), (5, .ref (q 82)), (6, .ref (q 83)), (7, .ref (q 84)), (8, .ref (q 85)), (9, .ref (q 86)), (10, .ref (q 87)), (11, .ref (q 88)), (12, .int (iI (tn : Int))), (13, .int (iI (a9 : Int))), (14, .int (iI (p9 : Int))), (15, .int (iI (o9 : Int))), (16, .int (iI 0)), (17, .int (iI 0)), (18, .int (iI t9)), (19, .int (iI (smI z t9 (zo z))))]) C dL_law_825 (by decide) rfl ?_
          refine KIload C dL_law_827 0 rfl ?_
          refine KIf_eq (tgt := 848) C dL_law_829 (by decide) ⟨by omega, by omega⟩ (fun _ => ?_) (fun h => absurd h (by decide))
          refine KIload C dL_law_848 0 rfl ?_
          refine KIf_eq (tgt := 859) C dL_law_850 (by decide) ⟨by omega, by omega⟩ (fun _ => ?_) (fun h => absurd h (by decide))
          refine KBipush C dL_law_859 (by decide) ?_
          refine KIstore (lv' := [(16, .int (iI (-3))), (20, .int (iI 0)), (0, .ref b0), (1, .ref (q 80)), (2, .int (iI e9)), (3, .ref (q 0)), (4, .ref (q 81)), (5, .ref (q 82)), (6, .ref (q 83)), (7, .ref (q 84)), (8, .ref (q 85)), (9, .ref (q 86)), (10, .ref (q 87)), (11, .ref (q 88)), (12, .int (iI (tn : Int))), (13, .int (iI (a9 : Int))), (14, .int (iI (p9 : Int))), (15, .int (iI (o9 : Int))), (17, .int (iI 0)), (18, .int (iI t9)), (19, .int (iI (smI z t9 (zo z))))]) C dL_law_861 (by decide) rfl ?_
          refine KAload_n C dL_law_863 rfl 5 rfl ?_
          refine KIconst C dL_law_864 ?_
          refine KIload C dL_law_865 19 rfl ?_
          refine KIconst C dL_law_867 ?_
          refine KIconst C dL_law_868 ?_
          refine KCallSH (As := [.ref (q 0), .int (iI 4), .int (iI t9), .int (iI 0), .int (iI 0)]) (st := []) C hnc (ct_L_calls_planWave l g hnt S q t9 0 0 z hI.1 hW hI.2.1 ⟨by omega, by omega⟩ (gT g) rfl) u_ml_RL_89 u_st_yL_calls u_in_RL u_cw_calls hd_yL_calls ⟨Nat.le_of_ble_eq_true rfl, Nat.le_of_ble_eq_true rfl⟩ ⟨by show cells + 161 ≤ 600128; omega, by show slots + 3006 ≤ 7301064; omega⟩ (Nat.le_of_ble_eq_true rfl) dL_law_869 rfl (fun v869 u869 hp869 => ?_)
          obtain ⟨rfl, hc869⟩ := hp869.no hoP (by decide) (by decide : _ = ((-3) : Int))
          have hI869 := hI.cp hc869
          refine KSt (st2 := [.int (iI (-3))]) rfl ?_
          refine KRg (fun hR => ?_)
          have hWn := hW
          refine KIstore (lv' := [(17, .int (iI (-3))), (16, .int (iI (-3))), (20, .int (iI 0)), (0, .ref b0), (1, .ref (q 80)), (2, .int (iI e9)), (3, .ref (q 0)), (4, .ref (q 81)), (5, .ref (q 82)), (6, .ref (q 83)), (7, .ref (q 84)), (8, .ref (q 85)), (9, .ref (q 86)), (10, .ref (q 87)), (11, .ref (q 88)), (12, .int (iI (tn : Int))), (13, .int (iI (a9 : Int))), (14, .int (iI (p9 : Int))), (15, .int (iI (o9 : Int))), (18, .int (iI t9)), (19, .int (iI (smI z t9 (zo z))))]) C dL_law_872 (by decide) rfl ?_
          refine KGoto (tgt := 1114) C dL_law_874 (by decide) ?_
          refine KLv (lv' := [(0, .ref b0), (1, .ref (q 80)), (2, .int (iI e9)), (3, .ref (q 0)), (4, .ref (q 81)), (5, .ref (q 82)), (6, .ref (q 83)), (7, .ref (q 84)), (8, .ref (q 85)), (9, .ref (q 86)), (10, .ref (q 87)), (11, .ref (q 88)), (12, .int (iI (tn : Int))), (16, .int (iI (-3))), (17, .int (iI (-3)))]) [3, 4, 5, 6, 7, 8, 9, 10, 11, 12, 13, 14, 15, 1, 0] rfl ?_
          exact KWiden (by omega) (by omega) (kk _ _ _ _ ⟨by omega, by omega⟩ hI869 hWn)
        · have htk1 : 0 < tkN z t9 (zo z) := (smI_tk z t9 (zo z)).mp (by omega)
          refine KAload_n C dL_law_814 rfl 1 rfl ?_
          refine KIconst C dL_law_815 ?_
          refine KIald  (v := (zb z : Int)) C 8 (hI.1.at0 80 20) (hI.1.ln0 80 8) ⟨by omega, by omega⟩ (by omega) hI.q2 dL_law_816 ?_
          refine KIf_ne (tgt := 824) C dL_law_817 (by decide) ⟨by omega, by omega⟩ (fun c817 => ?_) (fun c817 => ?_)
          · have hoP := ho_Pw0 (z := z) ht9 (Or.inl (by omega))
            refine KIconst C dL_law_824 ?_
            refine KIstore (lv' := [(20, .int (iI 0)), (0, .ref b0), (1, .ref (q 80)), (2, .int (iI e9)), (3, .ref (q 0)), (4, .ref (q 81)), (5, .ref (q 82)), (6, .ref (q 83)), (7, .ref (q 84)), (8, .ref (q 85)), (9, .ref (q 86)), (10, .ref (q 87)), (11, .ref (q 88)), (12, .int (iI (tn : Int))), (13, .int (iI (a9 : Int))), (14, .int (iI (p9 : Int))), (15, .int (iI (o9 : Int))), (16, .int (iI 0)), (17, .int (iI 0)), (18, .int (iI t9)), (19, .int (iI (smI z t9 (zo z))))]) C dL_law_825 (by decide) rfl ?_
            refine KIload C dL_law_827 0 rfl ?_
            refine KIf_eq (tgt := 848) C dL_law_829 (by decide) ⟨by omega, by omega⟩ (fun _ => ?_) (fun h => absurd h (by decide))
            refine KIload C dL_law_848 0 rfl ?_
            refine KIf_eq (tgt := 859) C dL_law_850 (by decide) ⟨by omega, by omega⟩ (fun _ => ?_) (fun h => absurd h (by decide))
            refine KBipush C dL_law_859 (by decide) ?_
            refine KIstore (lv' := [(16, .int (iI (-3))), (20, .int (iI 0)), (0, .ref b0), (1, .ref (q 80)), (2, .int (iI e9)), (3, .ref (q 0)), (4, .ref (q 81)), (5, .ref (q 82)), (6, .ref (q 83)), (7, .ref (q 84)), (8, .ref (q 85)), (9, .ref (q 86)), (10, .ref (q 87)), (11, .ref (q 88)), (12, .int (iI (tn : Int))), (13, .int (iI (a9 : Int))), (14, .int (iI (p9 : Int))), (15, .int (iI (o9 : Int))), (17, .int (iI 0)), (18, .int (iI t9)), (19, .int (iI (smI z t9 (zo z))))]) C dL_law_861 (by decide) rfl ?_
            refine KAload_n C dL_law_863 rfl 5 rfl ?_
            refine KIconst C dL_law_864 ?_
            refine KIload C dL_law_865 19 rfl ?_
            refine KIconst C dL_law_867 ?_
            refine KIconst C dL_law_868 ?_
            refine KCallSH (As := [.ref (q 0), .int (iI 4), .int (iI t9), .int (iI 0), .int (iI 0)]) (st := []) C hnc (ct_L_calls_planWave l g hnt S q t9 0 0 z hI.1 hW hI.2.1 ⟨by omega, by omega⟩ (gT g) rfl) u_ml_RL_89 u_st_yL_calls u_in_RL u_cw_calls hd_yL_calls ⟨Nat.le_of_ble_eq_true rfl, Nat.le_of_ble_eq_true rfl⟩ ⟨by show cells + 161 ≤ 600128; omega, by show slots + 3006 ≤ 7301064; omega⟩ (Nat.le_of_ble_eq_true rfl) dL_law_869 rfl (fun v869 u869 hp869 => ?_)
            obtain ⟨rfl, hc869⟩ := hp869.no hoP (by decide) (by decide : _ = ((-3) : Int))
            have hI869 := hI.cp hc869
            refine KSt (st2 := [.int (iI (-3))]) rfl ?_
            refine KRg (fun hR => ?_)
            have hWn := hW
            refine KIstore (lv' := [(17, .int (iI (-3))), (16, .int (iI (-3))), (20, .int (iI 0)), (0, .ref b0), (1, .ref (q 80)), (2, .int (iI e9)), (3, .ref (q 0)), (4, .ref (q 81)), (5, .ref (q 82)), (6, .ref (q 83)), (7, .ref (q 84)), (8, .ref (q 85)), (9, .ref (q 86)), (10, .ref (q 87)), (11, .ref (q 88)), (12, .int (iI (tn : Int))), (13, .int (iI (a9 : Int))), (14, .int (iI (p9 : Int))), (15, .int (iI (o9 : Int))), (18, .int (iI t9)), (19, .int (iI (smI z t9 (zo z))))]) C dL_law_872 (by decide) rfl ?_
            refine KGoto (tgt := 1114) C dL_law_874 (by decide) ?_
            refine KLv (lv' := [(0, .ref b0), (1, .ref (q 80)), (2, .int (iI e9)), (3, .ref (q 0)), (4, .ref (q 81)), (5, .ref (q 82)), (6, .ref (q 83)), (7, .ref (q 84)), (8, .ref (q 85)), (9, .ref (q 86)), (10, .ref (q 87)), (11, .ref (q 88)), (12, .int (iI (tn : Int))), (16, .int (iI (-3))), (17, .int (iI (-3)))]) [3, 4, 5, 6, 7, 8, 9, 10, 11, 12, 13, 14, 15, 1, 0] rfl ?_
            exact KWiden (by omega) (by omega) (kk _ _ _ _ ⟨by omega, by omega⟩ hI869 hWn)
          · have hoP := ho_Pw1 (z := z) ht9 (by omega) htk1
            have hWn := wf_oPw hW t9
            rw [hoP] at hWn
            have hzn : zb (zjn (zwv z t9)) ≤ 40 := Nat.le_trans hWn.2.1.2 hWn.2.1.1
            refine KIconst C dL_law_820 ?_
            refine KGoto (tgt := 825) C dL_law_821 (by decide) ?_
            refine KIstore (lv' := [(20, .int (iI 1)), (0, .ref b0), (1, .ref (q 80)), (2, .int (iI e9)), (3, .ref (q 0)), (4, .ref (q 81)), (5, .ref (q 82)), (6, .ref (q 83)), (7, .ref (q 84)), (8, .ref (q 85)), (9, .ref (q 86)), (10, .ref (q 87)), (11, .ref (q 88)), (12, .int (iI (tn : Int))), (13, .int (iI (a9 : Int))), (14, .int (iI (p9 : Int))), (15, .int (iI (o9 : Int))), (16, .int (iI 0)), (17, .int (iI 0)), (18, .int (iI t9)), (19, .int (iI (smI z t9 (zo z))))]) C dL_law_825 (by decide) rfl ?_
            refine KIload C dL_law_827 0 rfl ?_
            refine KIf_eq (tgt := 848) C dL_law_829 (by decide) ⟨by omega, by omega⟩ (fun h => absurd h (by decide)) (fun _ => ?_)
            refine KIload C dL_law_832 19 rfl ?_
            refine KAload C dL_law_834 5 rfl ?_
            refine KAload C dL_law_836 7 rfl ?_
            refine KAload C dL_law_838 8 rfl ?_
            refine KAload C dL_law_840 11 rfl ?_
            refine KAload C dL_law_842 12 rfl ?_
            refine KAload_n C dL_law_844 rfl 2 rfl ?_
            refine KCallS (As := [.int (iI t9), .ref (q 81), .ref (q 83), .ref (q 84), .ref (q 87), .ref (q 88), .ref (q 80)]) (st := []) C (ct_L_plans l g S q t9 z hI.1 hW (hI.2.2.1) (by omega) (by omega) htk1) u_ml_RL_141 u_st_yL_plans u_in_RL u_co_yL_plans hd_yL_plans ⟨Nat.le_of_ble_eq_true rfl, Nat.le_of_ble_eq_true rfl⟩ ⟨by show cells + 0 ≤ 600128; omega, by show slots + 0 ≤ 7301064; omega⟩ (Nat.le_of_ble_eq_true rfl) dL_law_845 rfl (fun v845 u845 hp845 => ?_)
            obtain ⟨rfl, f845, rfl, hLo845, hLR845⟩ := hp845
            refine KSt (st2 := []) rfl ?_
            have hI845 := hI.lo hLo845 hLR845
            refine KRg (fun hR => ?_)
            refine KIload C dL_law_848 0 rfl ?_
            refine KIf_eq (tgt := 859) C dL_law_850 (by decide) ⟨by omega, by omega⟩ (fun h => absurd h (by decide)) (fun _ => ?_)
            refine KAload_n C dL_law_853 rfl 2 rfl ?_
            refine KIconst C dL_law_854 ?_
            refine KIald (S := wI S f845)  (v := ((zb (zjn (zwv z t9)) : Nat) : Int)) C 8 (hI845.1.at0 80 20) (hI845.1.ln0 80 8) ⟨by omega, by omega⟩ (by omega) hI845.q2 dL_law_855 ?_
            refine KGoto (tgt := 861) C dL_law_856 (by decide) ?_
            refine KIstore (lv' := [(16, .int (iI ((zb (zjn (zwv z t9)) : Nat) : Int))), (20, .int (iI 1)), (0, .ref b0), (1, .ref (q 80)), (2, .int (iI e9)), (3, .ref (q 0)), (4, .ref (q 81)), (5, .ref (q 82)), (6, .ref (q 83)), (7, .ref (q 84)), (8, .ref (q 85)), (9, .ref (q 86)), (10, .ref (q 87)), (11, .ref (q 88)), (12, .int (iI (tn : Int))), (13, .int (iI (a9 : Int))), (14, .int (iI (p9 : Int))), (15, .int (iI (o9 : Int))), (17, .int (iI 0)), (18, .int (iI t9)), (19, .int (iI (smI z t9 (zo z))))]) C dL_law_861 (by decide) rfl ?_
            refine KAload_n C dL_law_863 rfl 5 rfl ?_
            refine KIconst C dL_law_864 ?_
            refine KIload C dL_law_865 19 rfl ?_
            refine KIconst C dL_law_867 ?_
            refine KIconst C dL_law_868 ?_
            refine KCallSH (As := [.ref (q 0), .int (iI 4), .int (iI t9), .int (iI 0), .int (iI 0)]) (st := []) C hnc (ct_L_calls_planWave l g hnt (wI S f845) q t9 0 0 z hI845.1 hW hI845.2.1 ⟨by omega, by omega⟩ (gT g) rfl) u_ml_RL_89 u_st_yL_calls u_in_RL u_cw_calls hd_yL_calls ⟨Nat.le_of_ble_eq_true rfl, Nat.le_of_ble_eq_true rfl⟩ ⟨by show cells + 161 ≤ 600128; omega, by show slots + 3006 ≤ 7301064; omega⟩ (Nat.le_of_ble_eq_true rfl) dL_law_869 rfl (fun v869 u869 hp869 => ?_)
            obtain ⟨rfl, hc869⟩ := hp869.ok hoP
            have hI869 := hI845.cp hc869
            refine KSt (st2 := [.int (iI ((zb (zjn (zwv z t9)) : Nat) : Int))]) rfl ?_
            refine KRg (fun hR => ?_)
            refine KIstore (lv' := [(17, .int (iI ((zb (zjn (zwv z t9)) : Nat) : Int))), (16, .int (iI ((zb (zjn (zwv z t9)) : Nat) : Int))), (20, .int (iI 1)), (0, .ref b0), (1, .ref (q 80)), (2, .int (iI e9)), (3, .ref (q 0)), (4, .ref (q 81)), (5, .ref (q 82)), (6, .ref (q 83)), (7, .ref (q 84)), (8, .ref (q 85)), (9, .ref (q 86)), (10, .ref (q 87)), (11, .ref (q 88)), (12, .int (iI (tn : Int))), (13, .int (iI (a9 : Int))), (14, .int (iI (p9 : Int))), (15, .int (iI (o9 : Int))), (18, .int (iI t9)), (19, .int (iI (smI z t9 (zo z))))]) C dL_law_872 (by decide) rfl ?_
            refine KGoto (tgt := 1114) C dL_law_874 (by decide) ?_
            refine KLv (lv' := [(0, .ref b0), (1, .ref (q 80)), (2, .int (iI e9)), (3, .ref (q 0)), (4, .ref (q 81)), (5, .ref (q 82)), (6, .ref (q 83)), (7, .ref (q 84)), (8, .ref (q 85)), (9, .ref (q 86)), (10, .ref (q 87)), (11, .ref (q 88)), (12, .int (iI (tn : Int))), (16, .int (iI ((zb (zjn (zwv z t9)) : Nat) : Int))), (17, .int (iI ((zb (zjn (zwv z t9)) : Nat) : Int)))]) [3, 4, 5, 6, 7, 8, 9, 10, 11, 12, 13, 14, 15, 1, 0] rfl ?_
            exact KWiden (by omega) (by omega) (kk _ _ _ _ ⟨by omega, by omega⟩ hI869 hWn)
      · have hkz : k < zo z := by omega
        obtain ⟨⟨w1, w2⟩, w3, w4, w5, ⟨w6, w7⟩, -, -⟩ := hW.2.2.2.2.1 k hkz
        refine KIload C dL_law_755 19 rfl ?_
        refine KIf_ne (tgt := 796) C dL_law_757 (by decide) ⟨by omega, by omega⟩ (fun c757 => ?_) (fun c757 => ?_)
        · refine KIconst C dL_law_796 ?_
          refine KGoto (tgt := 801) C dL_law_797 (by decide) ?_
          refine KTop (congrArg iI (show 1 = smI z t9 (k + 1) from (by first | exact smI_t (Or.inl (by omega)) | exact smI_t (Or.inr hit) | exact smI_f (fun h9 => h9.elim (by omega) hni)))) ?_
          refine KIstore (lv' := [(19, .int (iI (smI z t9 (k + 1)))), (0, .ref b0), (1, .ref (q 80)), (2, .int (iI e9)), (3, .ref (q 0)), (4, .ref (q 81)), (5, .ref (q 82)), (6, .ref (q 83)), (7, .ref (q 84)), (8, .ref (q 85)), (9, .ref (q 86)), (10, .ref (q 87)), (11, .ref (q 88)), (12, .int (iI (tn : Int))), (13, .int (iI (a9 : Int))), (14, .int (iI (p9 : Int))), (15, .int (iI (o9 : Int))), (16, .int (iI 0)), (17, .int (iI 0)), (18, .int (iI t9)), (20, .int (iI (k : Int)))]) C dL_law_801 (by decide) rfl ?_
          refine KIinc (v := ((k + 1 : Nat) : Int)) (lv' := [(20, .int (iI ((k + 1 : Nat) : Int))), (19, .int (iI (smI z t9 (k + 1)))), (0, .ref b0), (1, .ref (q 80)), (2, .int (iI e9)), (3, .ref (q 0)), (4, .ref (q 81)), (5, .ref (q 82)), (6, .ref (q 83)), (7, .ref (q 84)), (8, .ref (q 85)), (9, .ref (q 86)), (10, .ref (q 87)), (11, .ref (q 88)), (12, .int (iI (tn : Int))), (13, .int (iI (a9 : Int))), (14, .int (iI (p9 : Int))), (15, .int (iI (o9 : Int))), (16, .int (iI 0)), (17, .int (iI 0)), (18, .int (iI t9))]) C dL_law_803 20 rfl (by omega) (by decide) rfl ?_
          refine KGoto (tgt := 747) C dL_law_806 (by decide) ?_
          refine KLv (lv' := [(0, .ref b0), (1, .ref (q 80)), (2, .int (iI e9)), (3, .ref (q 0)), (4, .ref (q 81)), (5, .ref (q 82)), (6, .ref (q 83)), (7, .ref (q 84)), (8, .ref (q 85)), (9, .ref (q 86)), (10, .ref (q 87)), (11, .ref (q 88)), (12, .int (iI (tn : Int))), (13, .int (iI (a9 : Int))), (14, .int (iI (p9 : Int))), (15, .int (iI (o9 : Int))), (16, .int (iI 0)), (17, .int (iI 0)), (18, .int (iI t9)), (19, .int (iI (smI z t9 (k + 1)))), (20, .int (iI ((k + 1 : Nat) : Int)))]) [2, 3, 4, 5, 6, 7, 8, 9, 10, 11, 12, 13, 14, 15, 16, 17, 18, 19, 20, 1, 0] rfl ?_
          exact ih747 (k + 1) (by omega) (by omega)
        · refine KAload C dL_law_760 6 rfl ?_
          refine KIconst C dL_law_762 ?_
          refine KIload C dL_law_763 20 rfl ?_
          refine KImul C dL_law_765 ?_
          refine KIconst C dL_law_766 ?_
          refine KIadd C dL_law_767 ?_
          refine KTop (congrArg iI (show (4 * (k : Int)) + 1 = ((4 * k + 1 : Nat) : Int) from (by omega))) ?_
          refine KIald  (v := zst z (k : Int)) C 48 (hI.1.at0 83 20) (hI.1.ln0 83 48) ⟨by omega, by omega⟩ (by omega) (hI.o k hkz).2.1 dL_law_768 ?_
          refine KIf_ne (tgt := 800) C dL_law_769 (by decide) ⟨by omega, by omega⟩ (fun c769 => ?_) (fun c769 => ?_)
          · have hni : ¬ isT z t9 k := fun h9 => absurd h9.1 (by omega)
            refine KIconst C dL_law_800 ?_
            refine KTop (congrArg iI (show 0 = smI z t9 (k + 1) from (by first | exact smI_t (Or.inl (by omega)) | exact smI_t (Or.inr hit) | exact smI_f (fun h9 => h9.elim (by omega) hni)))) ?_
            refine KIstore (lv' := [(19, .int (iI (smI z t9 (k + 1)))), (0, .ref b0), (1, .ref (q 80)), (2, .int (iI e9)), (3, .ref (q 0)), (4, .ref (q 81)), (5, .ref (q 82)), (6, .ref (q 83)), (7, .ref (q 84)), (8, .ref (q 85)), (9, .ref (q 86)), (10, .ref (q 87)), (11, .ref (q 88)), (12, .int (iI (tn : Int))), (13, .int (iI (a9 : Int))), (14, .int (iI (p9 : Int))), (15, .int (iI (o9 : Int))), (16, .int (iI 0)), (17, .int (iI 0)), (18, .int (iI t9)), (20, .int (iI (k : Int)))]) C dL_law_801 (by decide) rfl ?_
            refine KIinc (v := ((k + 1 : Nat) : Int)) (lv' := [(20, .int (iI ((k + 1 : Nat) : Int))), (19, .int (iI (smI z t9 (k + 1)))), (0, .ref b0), (1, .ref (q 80)), (2, .int (iI e9)), (3, .ref (q 0)), (4, .ref (q 81)), (5, .ref (q 82)), (6, .ref (q 83)), (7, .ref (q 84)), (8, .ref (q 85)), (9, .ref (q 86)), (10, .ref (q 87)), (11, .ref (q 88)), (12, .int (iI (tn : Int))), (13, .int (iI (a9 : Int))), (14, .int (iI (p9 : Int))), (15, .int (iI (o9 : Int))), (16, .int (iI 0)), (17, .int (iI 0)), (18, .int (iI t9))]) C dL_law_803 20 rfl (by omega) (by decide) rfl ?_
            refine KGoto (tgt := 747) C dL_law_806 (by decide) ?_
            refine KLv (lv' := [(0, .ref b0), (1, .ref (q 80)), (2, .int (iI e9)), (3, .ref (q 0)), (4, .ref (q 81)), (5, .ref (q 82)), (6, .ref (q 83)), (7, .ref (q 84)), (8, .ref (q 85)), (9, .ref (q 86)), (10, .ref (q 87)), (11, .ref (q 88)), (12, .int (iI (tn : Int))), (13, .int (iI (a9 : Int))), (14, .int (iI (p9 : Int))), (15, .int (iI (o9 : Int))), (16, .int (iI 0)), (17, .int (iI 0)), (18, .int (iI t9)), (19, .int (iI (smI z t9 (k + 1)))), (20, .int (iI ((k + 1 : Nat) : Int)))]) [2, 3, 4, 5, 6, 7, 8, 9, 10, 11, 12, 13, 14, 15, 16, 17, 18, 19, 20, 1, 0] rfl ?_
            exact ih747 (k + 1) (by omega) (by omega)
          · refine KAload C dL_law_772 6 rfl ?_
            refine KIconst C dL_law_774 ?_
            refine KIload C dL_law_775 20 rfl ?_
            refine KImul C dL_law_777 ?_
            refine KIconst C dL_law_778 ?_
            refine KIadd C dL_law_779 ?_
            refine KTop (congrArg iI (show (4 * (k : Int)) + 3 = ((4 * k + 3 : Nat) : Int) from (by omega))) ?_
            refine KIald  (v := zmn z (k : Int)) C 48 (hI.1.at0 83 20) (hI.1.ln0 83 48) ⟨by omega, by omega⟩ (by omega) (hI.o k hkz).2.2.2 dL_law_780 ?_
            refine KIf_le (tgt := 800) C dL_law_781 (by decide) ⟨by omega, by omega⟩ (fun c781 => ?_) (fun c781 => ?_)
            · have hni : ¬ isT z t9 k := fun h9 => absurd h9.2.1 (by omega)
              refine KIconst C dL_law_800 ?_
              refine KTop (congrArg iI (show 0 = smI z t9 (k + 1) from (by first | exact smI_t (Or.inl (by omega)) | exact smI_t (Or.inr hit) | exact smI_f (fun h9 => h9.elim (by omega) hni)))) ?_
              refine KIstore (lv' := [(19, .int (iI (smI z t9 (k + 1)))), (0, .ref b0), (1, .ref (q 80)), (2, .int (iI e9)), (3, .ref (q 0)), (4, .ref (q 81)), (5, .ref (q 82)), (6, .ref (q 83)), (7, .ref (q 84)), (8, .ref (q 85)), (9, .ref (q 86)), (10, .ref (q 87)), (11, .ref (q 88)), (12, .int (iI (tn : Int))), (13, .int (iI (a9 : Int))), (14, .int (iI (p9 : Int))), (15, .int (iI (o9 : Int))), (16, .int (iI 0)), (17, .int (iI 0)), (18, .int (iI t9)), (20, .int (iI (k : Int)))]) C dL_law_801 (by decide) rfl ?_
              refine KIinc (v := ((k + 1 : Nat) : Int)) (lv' := [(20, .int (iI ((k + 1 : Nat) : Int))), (19, .int (iI (smI z t9 (k + 1)))), (0, .ref b0), (1, .ref (q 80)), (2, .int (iI e9)), (3, .ref (q 0)), (4, .ref (q 81)), (5, .ref (q 82)), (6, .ref (q 83)), (7, .ref (q 84)), (8, .ref (q 85)), (9, .ref (q 86)), (10, .ref (q 87)), (11, .ref (q 88)), (12, .int (iI (tn : Int))), (13, .int (iI (a9 : Int))), (14, .int (iI (p9 : Int))), (15, .int (iI (o9 : Int))), (16, .int (iI 0)), (17, .int (iI 0)), (18, .int (iI t9))]) C dL_law_803 20 rfl (by omega) (by decide) rfl ?_
              refine KGoto (tgt := 747) C dL_law_806 (by decide) ?_
              refine KLv (lv' := [(0, .ref b0), (1, .ref (q 80)), (2, .int (iI e9)), (3, .ref (q 0)), (4, .ref (q 81)), (5, .ref (q 82)), (6, .ref (q 83)), (7, .ref (q 84)), (8, .ref (q 85)), (9, .ref (q 86)), (10, .ref (q 87)), (11, .ref (q 88)), (12, .int (iI (tn : Int))), (13, .int (iI (a9 : Int))), (14, .int (iI (p9 : Int))), (15, .int (iI (o9 : Int))), (16, .int (iI 0)), (17, .int (iI 0)), (18, .int (iI t9)), (19, .int (iI (smI z t9 (k + 1)))), (20, .int (iI ((k + 1 : Nat) : Int)))]) [2, 3, 4, 5, 6, 7, 8, 9, 10, 11, 12, 13, 14, 15, 16, 17, 18, 19, 20, 1, 0] rfl ?_
              exact ih747 (k + 1) (by omega) (by omega)
            · refine KAload C dL_law_784 6 rfl ?_
              refine KIconst C dL_law_786 ?_
              refine KIload C dL_law_787 20 rfl ?_
              refine KImul C dL_law_789 ?_
              refine KTop (congrArg iI (show 4 * (k : Int) = ((4 * k : Nat) : Int) from (by omega))) ?_
              refine KIald  (v := zdu z (k : Int)) C 48 (hI.1.at0 83 20) (hI.1.ln0 83 48) ⟨by omega, by omega⟩ (by omega) (hI.o k hkz).1 dL_law_790 ?_
              refine KIload C dL_law_791 18 rfl ?_
              refine KIcmp_gt (tgt := 800) C dL_law_793 (by decide) ⟨by omega, by omega⟩ ⟨by omega, by omega⟩ (fun c793 => ?_) (fun c793 => ?_)
              · have hni : ¬ isT z t9 k := fun h9 => absurd h9.2.2 (by omega)
                refine KIconst C dL_law_800 ?_
                refine KTop (congrArg iI (show 0 = smI z t9 (k + 1) from (by first | exact smI_t (Or.inl (by omega)) | exact smI_t (Or.inr hit) | exact smI_f (fun h9 => h9.elim (by omega) hni)))) ?_
                refine KIstore (lv' := [(19, .int (iI (smI z t9 (k + 1)))), (0, .ref b0), (1, .ref (q 80)), (2, .int (iI e9)), (3, .ref (q 0)), (4, .ref (q 81)), (5, .ref (q 82)), (6, .ref (q 83)), (7, .ref (q 84)), (8, .ref (q 85)), (9, .ref (q 86)), (10, .ref (q 87)), (11, .ref (q 88)), (12, .int (iI (tn : Int))), (13, .int (iI (a9 : Int))), (14, .int (iI (p9 : Int))), (15, .int (iI (o9 : Int))), (16, .int (iI 0)), (17, .int (iI 0)), (18, .int (iI t9)), (20, .int (iI (k : Int)))]) C dL_law_801 (by decide) rfl ?_
                refine KIinc (v := ((k + 1 : Nat) : Int)) (lv' := [(20, .int (iI ((k + 1 : Nat) : Int))), (19, .int (iI (smI z t9 (k + 1)))), (0, .ref b0), (1, .ref (q 80)), (2, .int (iI e9)), (3, .ref (q 0)), (4, .ref (q 81)), (5, .ref (q 82)), (6, .ref (q 83)), (7, .ref (q 84)), (8, .ref (q 85)), (9, .ref (q 86)), (10, .ref (q 87)), (11, .ref (q 88)), (12, .int (iI (tn : Int))), (13, .int (iI (a9 : Int))), (14, .int (iI (p9 : Int))), (15, .int (iI (o9 : Int))), (16, .int (iI 0)), (17, .int (iI 0)), (18, .int (iI t9))]) C dL_law_803 20 rfl (by omega) (by decide) rfl ?_
                refine KGoto (tgt := 747) C dL_law_806 (by decide) ?_
                refine KLv (lv' := [(0, .ref b0), (1, .ref (q 80)), (2, .int (iI e9)), (3, .ref (q 0)), (4, .ref (q 81)), (5, .ref (q 82)), (6, .ref (q 83)), (7, .ref (q 84)), (8, .ref (q 85)), (9, .ref (q 86)), (10, .ref (q 87)), (11, .ref (q 88)), (12, .int (iI (tn : Int))), (13, .int (iI (a9 : Int))), (14, .int (iI (p9 : Int))), (15, .int (iI (o9 : Int))), (16, .int (iI 0)), (17, .int (iI 0)), (18, .int (iI t9)), (19, .int (iI (smI z t9 (k + 1)))), (20, .int (iI ((k + 1 : Nat) : Int)))]) [2, 3, 4, 5, 6, 7, 8, 9, 10, 11, 12, 13, 14, 15, 16, 17, 18, 19, 20, 1, 0] rfl ?_
                exact ih747 (k + 1) (by omega) (by omega)
              · have hit : isT z t9 k := ⟨by omega, by omega, by omega⟩
                refine KIconst C dL_law_796 ?_
                refine KGoto (tgt := 801) C dL_law_797 (by decide) ?_
                refine KTop (congrArg iI (show 1 = smI z t9 (k + 1) from (by first | exact smI_t (Or.inl (by omega)) | exact smI_t (Or.inr hit) | exact smI_f (fun h9 => h9.elim (by omega) hni)))) ?_
                refine KIstore (lv' := [(19, .int (iI (smI z t9 (k + 1)))), (0, .ref b0), (1, .ref (q 80)), (2, .int (iI e9)), (3, .ref (q 0)), (4, .ref (q 81)), (5, .ref (q 82)), (6, .ref (q 83)), (7, .ref (q 84)), (8, .ref (q 85)), (9, .ref (q 86)), (10, .ref (q 87)), (11, .ref (q 88)), (12, .int (iI (tn : Int))), (13, .int (iI (a9 : Int))), (14, .int (iI (p9 : Int))), (15, .int (iI (o9 : Int))), (16, .int (iI 0)), (17, .int (iI 0)), (18, .int (iI t9)), (20, .int (iI (k : Int)))]) C dL_law_801 (by decide) rfl ?_
                refine KIinc (v := ((k + 1 : Nat) : Int)) (lv' := [(20, .int (iI ((k + 1 : Nat) : Int))), (19, .int (iI (smI z t9 (k + 1)))), (0, .ref b0), (1, .ref (q 80)), (2, .int (iI e9)), (3, .ref (q 0)), (4, .ref (q 81)), (5, .ref (q 82)), (6, .ref (q 83)), (7, .ref (q 84)), (8, .ref (q 85)), (9, .ref (q 86)), (10, .ref (q 87)), (11, .ref (q 88)), (12, .int (iI (tn : Int))), (13, .int (iI (a9 : Int))), (14, .int (iI (p9 : Int))), (15, .int (iI (o9 : Int))), (16, .int (iI 0)), (17, .int (iI 0)), (18, .int (iI t9))]) C dL_law_803 20 rfl (by omega) (by decide) rfl ?_
                refine KGoto (tgt := 747) C dL_law_806 (by decide) ?_
                refine KLv (lv' := [(0, .ref b0), (1, .ref (q 80)), (2, .int (iI e9)), (3, .ref (q 0)), (4, .ref (q 81)), (5, .ref (q 82)), (6, .ref (q 83)), (7, .ref (q 84)), (8, .ref (q 85)), (9, .ref (q 86)), (10, .ref (q 87)), (11, .ref (q 88)), (12, .int (iI (tn : Int))), (13, .int (iI (a9 : Int))), (14, .int (iI (p9 : Int))), (15, .int (iI (o9 : Int))), (16, .int (iI 0)), (17, .int (iI 0)), (18, .int (iI t9)), (19, .int (iI (smI z t9 (k + 1)))), (20, .int (iI ((k + 1 : Nat) : Int)))]) [2, 3, 4, 5, 6, 7, 8, 9, 10, 11, 12, 13, 14, 15, 16, 17, 18, 19, 20, 1, 0] rfl ?_
                exact ih747 (k + 1) (by omega) (by omega)
  exact loop747 _ 0 (Nat.lt_succ_self _) (by omega)
set_option maxRecDepth 100000 in
set_option maxHeartbeats 4000000 in
theorem sg_plan (hnt : l.stackTraces = false) (C : Cx pX l sX mX argsX methX cX cL_law 22 RL ret g) (hnc : Ncs sX) (hc : cells + 475 ≤ 600128 ∧ slots + 4890 ≤ 7301064) (e9 : Int) (tn a9 p9 o9 : Nat) (z : Sig) (R : Int → Int) (hI : LI S q (gT g) z z R) (hW : Wf z) (hp9 : p9 < 20) (ho9 : o9 ≤ zo z) (kk : Nxt pX l eX sX mX argsX belowX methX cX QX g q b0 e9 (tn : Int) cells slots) : Wk pX l eX room_1 sX mX argsX belowX methX cX QX g 22 cells slots 712 [(0, .ref b0), (1, .ref (q 80)), (2, .int (iI e9)), (3, .ref (q 0)), (4, .ref (q 81)), (5, .ref (q 82)), (6, .ref (q 83)), (7, .ref (q 84)), (8, .ref (q 85)), (9, .ref (q 86)), (10, .ref (q 87)), (11, .ref (q 88)), (12, .int (iI (tn : Int))), (13, .int (iI (a9 : Int))), (14, .int (iI (p9 : Int))), (15, .int (iI (o9 : Int))), (16, .int (iI 0)), (17, .int (iI 0))] [] S := by
  refine KRg (fun hR => ?_)
  obtain ⟨h12, h6c⟩ := hI.l12
  have hC := hW.1
  have hbo := hW.2.1.2
  refine KIload_n C dL_law_712 rfl 2 rfl ?_
  refine KBipush C dL_law_713 (by decide) ?_
  refine KIshr (v := iI ((iI e9 >>> (iI 6 &&& 31)).toInt)) C dL_law_715 (iI_of _).symm ?_
  refine KIconst C dL_law_716 ?_
  refine KCallS (As := [.int (iI ((iI e9 >>> (iI 6 &&& 31)).toInt)), .int (iI 3)]) (st := []) C (ct_L_low l g S ((iI e9 >>> (iI 6 &&& 31)).toInt) 3 (by omega)) u_ml_RL_125 u_st_yL_low u_in_RL u_co_yL_low hd_yL_low ⟨Nat.le_of_ble_eq_true rfl, Nat.le_of_ble_eq_true rfl⟩ ⟨by show cells + 0 ≤ 600128; omega, by show slots + 0 ≤ 7301064; omega⟩ (Nat.le_of_ble_eq_true rfl) dL_law_717 rfl (fun v717 u717 hp717 => ?_)
  obtain ⟨rfl, rfl⟩ := hp717
  refine KSt (st2 := [.int (iI ((lowN ((iI e9 >>> (iI 6 &&& 31)).toInt) 3 : Nat) : Int))]) rfl ?_
  obtain ⟨r717, hrd717⟩ : ∃ n9 : Nat, n9 = lowN ((iI e9 >>> (iI 6 &&& 31)).toInt) 3 := ⟨_, rfl⟩
  have hr717 := lowN_lt (x := ((iI e9 >>> (iI 6 &&& 31)).toInt)) (n := 3) (by omega)
  rw [← hrd717] at hr717
  refine KTop (congrArg iI (show ((lowN ((iI e9 >>> (iI 6 &&& 31)).toInt) 3 : Nat) : Int) = (r717 : Int) from (by rw [hrd717]))) ?_
  refine KIf_le (tgt := 729) C dL_law_720 (by decide) ⟨by omega, by omega⟩ (fun c720 => ?_) (fun c720 => ?_)
  · refine KIload_n C dL_law_729 rfl 2 rfl ?_
    refine KBipush C dL_law_730 (by decide) ?_
    refine KIshr (v := iI ((iI e9 >>> (iI 8 &&& 31)).toInt)) C dL_law_732 (iI_of _).symm ?_
    refine KSipush C dL_law_733 (by decide) ?_
    refine KCallS (As := [.int (iI ((iI e9 >>> (iI 8 &&& 31)).toInt)), .int (iI 1000)]) (st := []) C (ct_L_low l g S ((iI e9 >>> (iI 8 &&& 31)).toInt) 1000 (by omega)) u_ml_RL_125 u_st_yL_low u_in_RL u_co_yL_low hd_yL_low ⟨Nat.le_of_ble_eq_true rfl, Nat.le_of_ble_eq_true rfl⟩ ⟨by show cells + 0 ≤ 600128; omega, by show slots + 0 ≤ 7301064; omega⟩ (Nat.le_of_ble_eq_true rfl) dL_law_736 rfl (fun v736 u736 hp736 => ?_)
    obtain ⟨rfl, rfl⟩ := hp736
    refine KSt (st2 := [.int (iI ((lowN ((iI e9 >>> (iI 8 &&& 31)).toInt) 1000 : Nat) : Int))]) rfl ?_
    obtain ⟨r736, hrd736⟩ : ∃ n9 : Nat, n9 = lowN ((iI e9 >>> (iI 8 &&& 31)).toInt) 1000 := ⟨_, rfl⟩
    have hr736 := lowN_lt (x := ((iI e9 >>> (iI 8 &&& 31)).toInt)) (n := 1000) (by omega)
    rw [← hrd736] at hr736
    refine KTop (congrArg iI (show ((lowN ((iI e9 >>> (iI 8 &&& 31)).toInt) 1000 : Nat) : Int) = (r736 : Int) from (by rw [hrd736]))) ?_
    refine KIstore (lv' := [(18, .int (iI (r736 : Int))), (0, .ref b0), (1, .ref (q 80)), (2, .int (iI e9)), (3, .ref (q 0)), (4, .ref (q 81)), (5, .ref (q 82)), (6, .ref (q 83)), (7, .ref (q 84)), (8, .ref (q 85)), (9, .ref (q 86)), (10, .ref (q 87)), (11, .ref (q 88)), (12, .int (iI (tn : Int))), (13, .int (iI (a9 : Int))), (14, .int (iI (p9 : Int))), (15, .int (iI (o9 : Int))), (16, .int (iI 0)), (17, .int (iI 0))]) C dL_law_739 (by decide) rfl ?_
    refine KLv (lv' := [(0, .ref b0), (1, .ref (q 80)), (2, .int (iI e9)), (3, .ref (q 0)), (4, .ref (q 81)), (5, .ref (q 82)), (6, .ref (q 83)), (7, .ref (q 84)), (8, .ref (q 85)), (9, .ref (q 86)), (10, .ref (q 87)), (11, .ref (q 88)), (12, .int (iI (tn : Int))), (13, .int (iI (a9 : Int))), (14, .int (iI (p9 : Int))), (15, .int (iI (o9 : Int))), (16, .int (iI 0)), (17, .int (iI 0)), (18, .int (iI (r736 : Int)))]) [1, 2, 3, 4, 5, 6, 7, 8, 9, 10, 11, 12, 13, 14, 15, 16, 17, 18, 0] rfl ?_
    exact sg_plan2 hnt C hnc hc e9 tn a9 p9 o9 z R hI hW hp9 ho9 (r736 : Int) ⟨by omega, by omega⟩ kk
  · refine KSipush C dL_law_723 (by decide) ?_
    refine KGoto (tgt := 739) C dL_law_726 (by decide) ?_
    refine KIstore (lv' := [(18, .int (iI 999)), (0, .ref b0), (1, .ref (q 80)), (2, .int (iI e9)), (3, .ref (q 0)), (4, .ref (q 81)), (5, .ref (q 82)), (6, .ref (q 83)), (7, .ref (q 84)), (8, .ref (q 85)), (9, .ref (q 86)), (10, .ref (q 87)), (11, .ref (q 88)), (12, .int (iI (tn : Int))), (13, .int (iI (a9 : Int))), (14, .int (iI (p9 : Int))), (15, .int (iI (o9 : Int))), (16, .int (iI 0)), (17, .int (iI 0))]) C dL_law_739 (by decide) rfl ?_
    refine KLv (lv' := [(0, .ref b0), (1, .ref (q 80)), (2, .int (iI e9)), (3, .ref (q 0)), (4, .ref (q 81)), (5, .ref (q 82)), (6, .ref (q 83)), (7, .ref (q 84)), (8, .ref (q 85)), (9, .ref (q 86)), (10, .ref (q 87)), (11, .ref (q 88)), (12, .int (iI (tn : Int))), (13, .int (iI (a9 : Int))), (14, .int (iI (p9 : Int))), (15, .int (iI (o9 : Int))), (16, .int (iI 0)), (17, .int (iI 0)), (18, .int (iI 999))]) [1, 2, 3, 4, 5, 6, 7, 8, 9, 10, 11, 12, 13, 14, 15, 16, 17, 18, 0] rfl ?_
    exact sg_plan2 hnt C hnc hc e9 tn a9 p9 o9 z R hI hW hp9 ho9 999 ⟨by omega, by omega⟩ kk
set_option maxRecDepth 100000 in
set_option maxHeartbeats 4000000 in
theorem sg_pick (hnt : l.stackTraces = false) (C : Cx pX l sX mX argsX methX cX cL_law 22 RL ret g) (hnc : Ncs sX) (hc : cells + 475 ≤ 600128 ∧ slots + 4890 ≤ 7301064) (e9 : Int) (tn a9 p9 o9 : Nat) (z : Sig) (R : Int → Int) (hI : LI S q (gT g) z z R) (hW : Wf z) (hp9 : p9 < 20) (ho9 : o9 ≤ zo z) (kk : Nxt pX l eX sX mX argsX belowX methX cX QX g q b0 e9 (tn : Int) cells slots) : Wk pX l eX room_1 sX mX argsX belowX methX cX QX g 22 cells slots 884 [(0, .ref b0), (1, .ref (q 80)), (2, .int (iI e9)), (3, .ref (q 0)), (4, .ref (q 81)), (5, .ref (q 82)), (6, .ref (q 83)), (7, .ref (q 84)), (8, .ref (q 85)), (9, .ref (q 86)), (10, .ref (q 87)), (11, .ref (q 88)), (12, .int (iI (tn : Int))), (13, .int (iI (a9 : Int))), (14, .int (iI (p9 : Int))), (15, .int (iI (o9 : Int))), (16, .int (iI 0)), (17, .int (iI 0))] [] S := by
  refine KRg (fun hR => ?_)
  obtain ⟨h12, h6c⟩ := hI.l12
  have hC := hW.1
  have hbo := hW.2.1.2
  refine KIload_n C dL_law_884 rfl 2 rfl ?_
  refine KBipush C dL_law_885 (by decide) ?_
  refine KIshr (v := iI ((iI e9 >>> (iI 6 &&& 31)).toInt)) C dL_law_887 (iI_of _).symm ?_
  refine KAload_n C dL_law_888 rfl 1 rfl ?_
  refine KIconst C dL_law_889 ?_
  refine KIald  (v := (zb z : Int)) C 8 (hI.1.at0 80 20) (hI.1.ln0 80 8) ⟨by omega, by omega⟩ (by omega) hI.q2 dL_law_890 ?_
  refine KIconst C dL_law_891 ?_
  refine KIadd C dL_law_892 ?_
  refine KCallS (As := [.int (iI ((iI e9 >>> (iI 6 &&& 31)).toInt)), .int (iI ((zb z : Int) + 1))]) (st := []) C (ct_L_low l g S ((iI e9 >>> (iI 6 &&& 31)).toInt) ((zb z : Int) + 1) (by omega)) u_ml_RL_125 u_st_yL_low u_in_RL u_co_yL_low hd_yL_low ⟨Nat.le_of_ble_eq_true rfl, Nat.le_of_ble_eq_true rfl⟩ ⟨by show cells + 0 ≤ 600128; omega, by show slots + 0 ≤ 7301064; omega⟩ (Nat.le_of_ble_eq_true rfl) dL_law_893 rfl (fun v893 u893 hp893 => ?_)
  obtain ⟨rfl, rfl⟩ := hp893
  refine KSt (st2 := [.int (iI ((lowN ((iI e9 >>> (iI 6 &&& 31)).toInt) ((zb z : Int) + 1) : Nat) : Int))]) rfl ?_
  obtain ⟨r893, hrd893⟩ : ∃ n9 : Nat, n9 = lowN ((iI e9 >>> (iI 6 &&& 31)).toInt) ((zb z : Int) + 1) := ⟨_, rfl⟩
  have hr893 := lowN_lt (x := ((iI e9 >>> (iI 6 &&& 31)).toInt)) (n := ((zb z : Int) + 1)) (by omega)
  rw [← hrd893] at hr893
  refine KTop (congrArg iI (show ((lowN ((iI e9 >>> (iI 6 &&& 31)).toInt) ((zb z : Int) + 1) : Nat) : Int) = (r893 : Int) from (by rw [hrd893]))) ?_
  refine KIstore (lv' := [(18, .int (iI (r893 : Int))), (0, .ref b0), (1, .ref (q 80)), (2, .int (iI e9)), (3, .ref (q 0)), (4, .ref (q 81)), (5, .ref (q 82)), (6, .ref (q 83)), (7, .ref (q 84)), (8, .ref (q 85)), (9, .ref (q 86)), (10, .ref (q 87)), (11, .ref (q 88)), (12, .int (iI (tn : Int))), (13, .int (iI (a9 : Int))), (14, .int (iI (p9 : Int))), (15, .int (iI (o9 : Int))), (16, .int (iI 0)), (17, .int (iI 0))]) C dL_law_896 (by decide) rfl ?_
  refine KIload C dL_law_898 0 rfl ?_
  refine KAload_n C dL_law_900 rfl 2 rfl ?_
  refine KIconst C dL_law_901 ?_
  refine KIald  (v := (zb z : Int)) C 8 (hI.1.at0 80 20) (hI.1.ln0 80 8) ⟨by omega, by omega⟩ (by omega) hI.q2 dL_law_902 ?_
  refine KIcmp_ne (tgt := 911) C dL_law_903 (by decide) ⟨by omega, by omega⟩ ⟨by omega, by omega⟩ (fun c903 => ?_) (fun c903 => ?_)
  · have hbz : r893 < zb z := by omega
    have hoP := ho_Pk0 hbz
    have hWn := wf_oPk hW (r893 : Int)
    rw [hoP] at hWn
    have hmB := hW.okB (hW.lnB hbz)
    have htB := zto_b hW hmB
    refine KIload C dL_law_911 0 rfl ?_
    refine KAload C dL_law_913 5 rfl ?_
    refine KAload C dL_law_915 6 rfl ?_
    refine KAload C dL_law_917 7 rfl ?_
    refine KAload C dL_law_919 8 rfl ?_
    refine KAload C dL_law_921 9 rfl ?_
    refine KAload C dL_law_923 11 rfl ?_
    refine KAload C dL_law_925 12 rfl ?_
    refine KAload_n C dL_law_927 rfl 2 rfl ?_
    refine KCallS (As := [.int (iI (r893 : Int)), .ref (q 81), .ref (q 82), .ref (q 83), .ref (q 84), .ref (q 85), .ref (q 87), .ref (q 88), .ref (q 80)]) (st := []) C (ct_L_picks l g S q r893 z hI.1 hW (hI.2.2.1) hbz) u_ml_RL_145 u_st_yL_picks u_in_RL u_co_yL_picks hd_yL_picks ⟨Nat.le_of_ble_eq_true rfl, Nat.le_of_ble_eq_true rfl⟩ ⟨by show cells + 0 ≤ 600128; omega, by show slots + 0 ≤ 7301064; omega⟩ (Nat.le_of_ble_eq_true rfl) dL_law_928 rfl (fun v928 u928 hp928 => ?_)
    obtain ⟨rfl, f928, rfl, hLo928, hLR928⟩ := hp928
    refine KSt (st2 := [.int (iI (zto z (zpd z (r893 : Int))))]) rfl ?_
    have hI928 := hI.lo hLo928 hLR928
    refine KRg (fun hR => ?_)
    refine KIstore (lv' := [(16, .int (iI (zto z (zpd z (r893 : Int))))), (18, .int (iI (r893 : Int))), (0, .ref b0), (1, .ref (q 80)), (2, .int (iI e9)), (3, .ref (q 0)), (4, .ref (q 81)), (5, .ref (q 82)), (6, .ref (q 83)), (7, .ref (q 84)), (8, .ref (q 85)), (9, .ref (q 86)), (10, .ref (q 87)), (11, .ref (q 88)), (12, .int (iI (tn : Int))), (13, .int (iI (a9 : Int))), (14, .int (iI (p9 : Int))), (15, .int (iI (o9 : Int))), (17, .int (iI 0))]) C dL_law_931 (by decide) rfl ?_
    refine KAload_n C dL_law_933 rfl 5 rfl ?_
    refine KIconst C dL_law_934 ?_
    refine KIload C dL_law_935 1 rfl ?_
    refine KIconst C dL_law_937 ?_
    refine KIconst C dL_law_938 ?_
    refine KCallSH (As := [.ref (q 0), .int (iI 5), .int (iI (r893 : Int)), .int (iI 0), .int (iI 0)]) (st := []) C hnc (ct_L_calls_pick l g hnt (wI S f928) q (r893 : Int) 0 0 z hI928.1 hW hI928.2.1 ⟨by omega, by omega⟩ (gT g) rfl) u_ml_RL_89 u_st_yL_calls u_in_RL u_cw_calls hd_yL_calls ⟨Nat.le_of_ble_eq_true rfl, Nat.le_of_ble_eq_true rfl⟩ ⟨by show cells + 1 ≤ 600128; omega, by show slots + 6 ≤ 7301064; omega⟩ (Nat.le_of_ble_eq_true rfl) dL_law_939 rfl (fun v939 u939 hp939 => ?_)
    obtain ⟨rfl, hc939⟩ := hp939.ok hoP
    have hI939 := hI928.cp hc939
    refine KSt (st2 := [.int (iI (zto z (zpd z (r893 : Int))))]) rfl ?_
    refine KRg (fun hR => ?_)
    refine KIstore (lv' := [(17, .int (iI (zto z (zpd z (r893 : Int))))), (16, .int (iI (zto z (zpd z (r893 : Int))))), (18, .int (iI (r893 : Int))), (0, .ref b0), (1, .ref (q 80)), (2, .int (iI e9)), (3, .ref (q 0)), (4, .ref (q 81)), (5, .ref (q 82)), (6, .ref (q 83)), (7, .ref (q 84)), (8, .ref (q 85)), (9, .ref (q 86)), (10, .ref (q 87)), (11, .ref (q 88)), (12, .int (iI (tn : Int))), (13, .int (iI (a9 : Int))), (14, .int (iI (p9 : Int))), (15, .int (iI (o9 : Int)))]) C dL_law_942 (by decide) rfl ?_
    refine KGoto (tgt := 1114) C dL_law_944 (by decide) ?_
    refine KLv (lv' := [(0, .ref b0), (1, .ref (q 80)), (2, .int (iI e9)), (3, .ref (q 0)), (4, .ref (q 81)), (5, .ref (q 82)), (6, .ref (q 83)), (7, .ref (q 84)), (8, .ref (q 85)), (9, .ref (q 86)), (10, .ref (q 87)), (11, .ref (q 88)), (12, .int (iI (tn : Int))), (16, .int (iI (zto z (zpd z (r893 : Int))))), (17, .int (iI (zto z (zpd z (r893 : Int)))))]) [3, 4, 5, 6, 7, 8, 9, 10, 11, 12, 13, 14, 15, 1, 0] rfl ?_
    exact KWiden (by omega) (by omega) (kk _ _ _ _ ⟨by omega, by omega⟩ hI939 hWn)
  · have hoP := ho_Pk1 (z := z) (b := r893) (by omega)
    have hWn := hW
    refine KBipush C dL_law_906 (by decide) ?_
    refine KGoto (tgt := 931) C dL_law_908 (by decide) ?_
    refine KIstore (lv' := [(16, .int (iI (-4))), (18, .int (iI (r893 : Int))), (0, .ref b0), (1, .ref (q 80)), (2, .int (iI e9)), (3, .ref (q 0)), (4, .ref (q 81)), (5, .ref (q 82)), (6, .ref (q 83)), (7, .ref (q 84)), (8, .ref (q 85)), (9, .ref (q 86)), (10, .ref (q 87)), (11, .ref (q 88)), (12, .int (iI (tn : Int))), (13, .int (iI (a9 : Int))), (14, .int (iI (p9 : Int))), (15, .int (iI (o9 : Int))), (17, .int (iI 0))]) C dL_law_931 (by decide) rfl ?_
    refine KAload_n C dL_law_933 rfl 5 rfl ?_
    refine KIconst C dL_law_934 ?_
    refine KIload C dL_law_935 1 rfl ?_
    refine KIconst C dL_law_937 ?_
    refine KIconst C dL_law_938 ?_
    refine KCallSH (As := [.ref (q 0), .int (iI 5), .int (iI (r893 : Int)), .int (iI 0), .int (iI 0)]) (st := []) C hnc (ct_L_calls_pick l g hnt S q (r893 : Int) 0 0 z hI.1 hW hI.2.1 ⟨by omega, by omega⟩ (gT g) rfl) u_ml_RL_89 u_st_yL_calls u_in_RL u_cw_calls hd_yL_calls ⟨Nat.le_of_ble_eq_true rfl, Nat.le_of_ble_eq_true rfl⟩ ⟨by show cells + 1 ≤ 600128; omega, by show slots + 6 ≤ 7301064; omega⟩ (Nat.le_of_ble_eq_true rfl) dL_law_939 rfl (fun v939 u939 hp939 => ?_)
    obtain ⟨rfl, hc939⟩ := hp939.no hoP (by decide) (by decide : _ = ((-4) : Int))
    have hI939 := hI.cp hc939
    refine KSt (st2 := [.int (iI (-4))]) rfl ?_
    refine KRg (fun hR => ?_)
    refine KIstore (lv' := [(17, .int (iI (-4))), (16, .int (iI (-4))), (18, .int (iI (r893 : Int))), (0, .ref b0), (1, .ref (q 80)), (2, .int (iI e9)), (3, .ref (q 0)), (4, .ref (q 81)), (5, .ref (q 82)), (6, .ref (q 83)), (7, .ref (q 84)), (8, .ref (q 85)), (9, .ref (q 86)), (10, .ref (q 87)), (11, .ref (q 88)), (12, .int (iI (tn : Int))), (13, .int (iI (a9 : Int))), (14, .int (iI (p9 : Int))), (15, .int (iI (o9 : Int)))]) C dL_law_942 (by decide) rfl ?_
    refine KGoto (tgt := 1114) C dL_law_944 (by decide) ?_
    refine KLv (lv' := [(0, .ref b0), (1, .ref (q 80)), (2, .int (iI e9)), (3, .ref (q 0)), (4, .ref (q 81)), (5, .ref (q 82)), (6, .ref (q 83)), (7, .ref (q 84)), (8, .ref (q 85)), (9, .ref (q 86)), (10, .ref (q 87)), (11, .ref (q 88)), (12, .int (iI (tn : Int))), (16, .int (iI (-4))), (17, .int (iI (-4)))]) [3, 4, 5, 6, 7, 8, 9, 10, 11, 12, 13, 14, 15, 1, 0] rfl ?_
    exact KWiden (by omega) (by omega) (kk _ _ _ _ ⟨by omega, by omega⟩ hI939 hWn)
set_option maxRecDepth 100000 in
set_option maxHeartbeats 4000000 in
theorem sg_lay (hnt : l.stackTraces = false) (C : Cx pX l sX mX argsX methX cX cL_law 22 RL ret g) (hnc : Ncs sX) (hc : cells + 475 ≤ 600128 ∧ slots + 4890 ≤ 7301064) (e9 : Int) (tn a9 p9 o9 : Nat) (z : Sig) (R : Int → Int) (hI : LI S q (gT g) z z R) (hW : Wf z) (hp9 : p9 < 20) (ho9 : o9 ≤ zo z) (kk : Nxt pX l eX sX mX argsX belowX methX cX QX g q b0 e9 (tn : Int) cells slots) : Wk pX l eX room_1 sX mX argsX belowX methX cX QX g 22 cells slots 954 [(0, .ref b0), (1, .ref (q 80)), (2, .int (iI e9)), (3, .ref (q 0)), (4, .ref (q 81)), (5, .ref (q 82)), (6, .ref (q 83)), (7, .ref (q 84)), (8, .ref (q 85)), (9, .ref (q 86)), (10, .ref (q 87)), (11, .ref (q 88)), (12, .int (iI (tn : Int))), (13, .int (iI (a9 : Int))), (14, .int (iI (p9 : Int))), (15, .int (iI (o9 : Int))), (16, .int (iI 0)), (17, .int (iI 0))] [] S := by
  refine KRg (fun hR => ?_)
  obtain ⟨h12, h6c⟩ := hI.l12
  have hC := hW.1
  have hbo := hW.2.1.2
  refine KAload_n C dL_law_954 rfl 1 rfl ?_
  refine KIconst C dL_law_955 ?_
  refine KIald  (v := (zb z : Int)) C 8 (hI.1.at0 80 20) (hI.1.ln0 80 8) ⟨by omega, by omega⟩ (by omega) hI.q2 dL_law_956 ?_
  refine KIf_le (tgt := 965) C dL_law_957 (by decide) ⟨by omega, by omega⟩ (fun c957 => ?_) (fun c957 => ?_)
  · have hoP := ho_Lay0 (z := z) (by omega)
    have hWn := wf_oLay hW
    rw [hoP] at hWn
    have hab := asg_bb (zP z) (rkL z 20) (spL z 20) (rkL z 20).length
    have hrl := rkL_le z 20
    refine KAload C dL_law_965 4 rfl ?_
    refine KAload C dL_law_967 5 rfl ?_
    refine KAload C dL_law_969 9 rfl ?_
    refine KAload_n C dL_law_971 rfl 1 rfl ?_
    refine KCallS (As := [.ref (q 81), .ref (q 82), .ref (q 86), .ref (q 80)]) (st := []) C (ct_L_laysOut l g S q z hI.1 hW (hI.2.2.1)) u_ml_RL_149 u_st_yL_laysOut u_in_RL u_co_yL_laysOut hd_yL_laysOut ⟨Nat.le_of_ble_eq_true rfl, Nat.le_of_ble_eq_true rfl⟩ ⟨by show cells + 0 ≤ 600128; omega, by show slots + 0 ≤ 7301064; omega⟩ (Nat.le_of_ble_eq_true rfl) dL_law_972 rfl (fun v972 u972 hp972 => ?_)
    obtain ⟨rfl, f972, rfl, hLo972, hLR972⟩ := hp972
    refine KSt (st2 := [.int (iI ((asg (zP z) (rkL z 20) (spL z 20) (rkL z 20).length).1))]) rfl ?_
    have hI972 := hI.lo hLo972 hLR972
    refine KRg (fun hR => ?_)
    refine KIstore (lv' := [(16, .int (iI ((asg (zP z) (rkL z 20) (spL z 20) (rkL z 20).length).1))), (0, .ref b0), (1, .ref (q 80)), (2, .int (iI e9)), (3, .ref (q 0)), (4, .ref (q 81)), (5, .ref (q 82)), (6, .ref (q 83)), (7, .ref (q 84)), (8, .ref (q 85)), (9, .ref (q 86)), (10, .ref (q 87)), (11, .ref (q 88)), (12, .int (iI (tn : Int))), (13, .int (iI (a9 : Int))), (14, .int (iI (p9 : Int))), (15, .int (iI (o9 : Int))), (17, .int (iI 0))]) C dL_law_975 (by decide) rfl ?_
    refine KAload_n C dL_law_977 rfl 4 rfl ?_
    refine KIconst C dL_law_978 ?_
    refine KIconst C dL_law_979 ?_
    refine KIconst C dL_law_980 ?_
    refine KIconst C dL_law_981 ?_
    refine KCallSH (As := [.ref (q 0), .int (iI 1), .int (iI 0), .int (iI 0), .int (iI 0)]) (st := []) C hnc (ct_L_calls_layOut l g hnt (wI S f972) q 0 0 0 z hI972.1 hW hI972.2.1 (gT g) rfl) u_ml_RL_89 u_st_yL_calls u_in_RL u_cw_calls hd_yL_calls ⟨Nat.le_of_ble_eq_true rfl, Nat.le_of_ble_eq_true rfl⟩ ⟨by show cells + 1 ≤ 600128; omega, by show slots + 6 ≤ 7301064; omega⟩ (Nat.le_of_ble_eq_true rfl) dL_law_982 rfl (fun v982 u982 hp982 => ?_)
    obtain ⟨rfl, hc982⟩ := hp982.ok hoP
    have hI982 := hI972.cp hc982
    refine KSt (st2 := [.int (iI ((asg (zP z) (rkL z 20) (spL z 20) (rkL z 20).length).1))]) rfl ?_
    refine KRg (fun hR => ?_)
    refine KIstore (lv' := [(17, .int (iI ((asg (zP z) (rkL z 20) (spL z 20) (rkL z 20).length).1))), (16, .int (iI ((asg (zP z) (rkL z 20) (spL z 20) (rkL z 20).length).1))), (0, .ref b0), (1, .ref (q 80)), (2, .int (iI e9)), (3, .ref (q 0)), (4, .ref (q 81)), (5, .ref (q 82)), (6, .ref (q 83)), (7, .ref (q 84)), (8, .ref (q 85)), (9, .ref (q 86)), (10, .ref (q 87)), (11, .ref (q 88)), (12, .int (iI (tn : Int))), (13, .int (iI (a9 : Int))), (14, .int (iI (p9 : Int))), (15, .int (iI (o9 : Int)))]) C dL_law_985 (by decide) rfl ?_
    refine KGoto (tgt := 1114) C dL_law_987 (by decide) ?_
    refine KLv (lv' := [(0, .ref b0), (1, .ref (q 80)), (2, .int (iI e9)), (3, .ref (q 0)), (4, .ref (q 81)), (5, .ref (q 82)), (6, .ref (q 83)), (7, .ref (q 84)), (8, .ref (q 85)), (9, .ref (q 86)), (10, .ref (q 87)), (11, .ref (q 88)), (12, .int (iI (tn : Int))), (16, .int (iI ((asg (zP z) (rkL z 20) (spL z 20) (rkL z 20).length).1))), (17, .int (iI ((asg (zP z) (rkL z 20) (spL z 20) (rkL z 20).length).1)))]) [2, 3, 4, 5, 6, 7, 8, 9, 10, 11, 12, 13, 14, 1, 0] rfl ?_
    exact KWiden (by omega) (by omega) (kk _ _ _ _ ⟨by omega, by omega⟩ hI982 hWn)
  · have hoP := ho_Lay1 (z := z) (by omega)
    have hWn := hW
    refine KBipush C dL_law_960 (by decide) ?_
    refine KGoto (tgt := 975) C dL_law_962 (by decide) ?_
    refine KIstore (lv' := [(16, .int (iI (-3))), (0, .ref b0), (1, .ref (q 80)), (2, .int (iI e9)), (3, .ref (q 0)), (4, .ref (q 81)), (5, .ref (q 82)), (6, .ref (q 83)), (7, .ref (q 84)), (8, .ref (q 85)), (9, .ref (q 86)), (10, .ref (q 87)), (11, .ref (q 88)), (12, .int (iI (tn : Int))), (13, .int (iI (a9 : Int))), (14, .int (iI (p9 : Int))), (15, .int (iI (o9 : Int))), (17, .int (iI 0))]) C dL_law_975 (by decide) rfl ?_
    refine KAload_n C dL_law_977 rfl 4 rfl ?_
    refine KIconst C dL_law_978 ?_
    refine KIconst C dL_law_979 ?_
    refine KIconst C dL_law_980 ?_
    refine KIconst C dL_law_981 ?_
    refine KCallSH (As := [.ref (q 0), .int (iI 1), .int (iI 0), .int (iI 0), .int (iI 0)]) (st := []) C hnc (ct_L_calls_layOut l g hnt S q 0 0 0 z hI.1 hW hI.2.1 (gT g) rfl) u_ml_RL_89 u_st_yL_calls u_in_RL u_cw_calls hd_yL_calls ⟨Nat.le_of_ble_eq_true rfl, Nat.le_of_ble_eq_true rfl⟩ ⟨by show cells + 1 ≤ 600128; omega, by show slots + 6 ≤ 7301064; omega⟩ (Nat.le_of_ble_eq_true rfl) dL_law_982 rfl (fun v982 u982 hp982 => ?_)
    obtain ⟨rfl, hc982⟩ := hp982.no hoP (by decide) (by decide : _ = ((-3) : Int))
    have hI982 := hI.cp hc982
    refine KSt (st2 := [.int (iI (-3))]) rfl ?_
    refine KRg (fun hR => ?_)
    refine KIstore (lv' := [(17, .int (iI (-3))), (16, .int (iI (-3))), (0, .ref b0), (1, .ref (q 80)), (2, .int (iI e9)), (3, .ref (q 0)), (4, .ref (q 81)), (5, .ref (q 82)), (6, .ref (q 83)), (7, .ref (q 84)), (8, .ref (q 85)), (9, .ref (q 86)), (10, .ref (q 87)), (11, .ref (q 88)), (12, .int (iI (tn : Int))), (13, .int (iI (a9 : Int))), (14, .int (iI (p9 : Int))), (15, .int (iI (o9 : Int)))]) C dL_law_985 (by decide) rfl ?_
    refine KGoto (tgt := 1114) C dL_law_987 (by decide) ?_
    refine KLv (lv' := [(0, .ref b0), (1, .ref (q 80)), (2, .int (iI e9)), (3, .ref (q 0)), (4, .ref (q 81)), (5, .ref (q 82)), (6, .ref (q 83)), (7, .ref (q 84)), (8, .ref (q 85)), (9, .ref (q 86)), (10, .ref (q 87)), (11, .ref (q 88)), (12, .int (iI (tn : Int))), (16, .int (iI (-3))), (17, .int (iI (-3)))]) [2, 3, 4, 5, 6, 7, 8, 9, 10, 11, 12, 13, 14, 1, 0] rfl ?_
    exact KWiden (by omega) (by omega) (kk _ _ _ _ ⟨by omega, by omega⟩ hI982 hWn)
set_option maxRecDepth 100000 in
set_option maxHeartbeats 4000000 in
theorem sg_cap (hnt : l.stackTraces = false) (C : Cx pX l sX mX argsX methX cX cL_law 22 RL ret g) (hnc : Ncs sX) (hc : cells + 475 ≤ 600128 ∧ slots + 4890 ≤ 7301064) (e9 : Int) (tn a9 p9 o9 : Nat) (z : Sig) (R : Int → Int) (hI : LI S q (gT g) z z R) (hW : Wf z) (hp9 : p9 < 20) (ho9 : o9 ≤ zo z) (kk : Nxt pX l eX sX mX argsX belowX methX cX QX g q b0 e9 (tn : Int) cells slots) : Wk pX l eX room_1 sX mX argsX belowX methX cX QX g 22 cells slots 990 [(0, .ref b0), (1, .ref (q 80)), (2, .int (iI e9)), (3, .ref (q 0)), (4, .ref (q 81)), (5, .ref (q 82)), (6, .ref (q 83)), (7, .ref (q 84)), (8, .ref (q 85)), (9, .ref (q 86)), (10, .ref (q 87)), (11, .ref (q 88)), (12, .int (iI (tn : Int))), (13, .int (iI (a9 : Int))), (14, .int (iI (p9 : Int))), (15, .int (iI (o9 : Int))), (16, .int (iI 0)), (17, .int (iI 0))] [] S := by
  refine KRg (fun hR => ?_)
  obtain ⟨h12, h6c⟩ := hI.l12
  have hC := hW.1
  have hbo := hW.2.1.2
  refine KIconst C dL_law_990 ?_
  refine KIload_n C dL_law_991 rfl 2 rfl ?_
  refine KBipush C dL_law_992 (by decide) ?_
  refine KIshr (v := iI ((iI e9 >>> (iI 6 &&& 31)).toInt)) C dL_law_994 (iI_of _).symm ?_
  refine KBipush C dL_law_995 (by decide) ?_
  refine KCallS (As := [.int (iI ((iI e9 >>> (iI 6 &&& 31)).toInt)), .int (iI 6)]) (st := [.int (iI 1)]) C (ct_L_low l g S ((iI e9 >>> (iI 6 &&& 31)).toInt) 6 (by omega)) u_ml_RL_125 u_st_yL_low u_in_RL u_co_yL_low hd_yL_low ⟨Nat.le_of_ble_eq_true rfl, Nat.le_of_ble_eq_true rfl⟩ ⟨by show cells + 0 ≤ 600128; omega, by show slots + 0 ≤ 7301064; omega⟩ (Nat.le_of_ble_eq_true rfl) dL_law_997 rfl (fun v997 u997 hp997 => ?_)
  obtain ⟨rfl, rfl⟩ := hp997
  refine KSt (st2 := [.int (iI ((lowN ((iI e9 >>> (iI 6 &&& 31)).toInt) 6 : Nat) : Int)), .int (iI 1)]) rfl ?_
  obtain ⟨r997, hrd997⟩ : ∃ n9 : Nat, n9 = lowN ((iI e9 >>> (iI 6 &&& 31)).toInt) 6 := ⟨_, rfl⟩
  have hr997 := lowN_lt (x := ((iI e9 >>> (iI 6 &&& 31)).toInt)) (n := 6) (by omega)
  rw [← hrd997] at hr997
  refine KTop (congrArg iI (show ((lowN ((iI e9 >>> (iI 6 &&& 31)).toInt) 6 : Nat) : Int) = (r997 : Int) from (by rw [hrd997]))) ?_
  refine KIadd C dL_law_1000 ?_
  refine KTop (congrArg iI (show 1 + (r997 : Int) = ((1 + r997 : Nat) : Int) from (by omega))) ?_
  refine KIstore (lv' := [(18, .int (iI ((1 + r997 : Nat) : Int))), (0, .ref b0), (1, .ref (q 80)), (2, .int (iI e9)), (3, .ref (q 0)), (4, .ref (q 81)), (5, .ref (q 82)), (6, .ref (q 83)), (7, .ref (q 84)), (8, .ref (q 85)), (9, .ref (q 86)), (10, .ref (q 87)), (11, .ref (q 88)), (12, .int (iI (tn : Int))), (13, .int (iI (a9 : Int))), (14, .int (iI (p9 : Int))), (15, .int (iI (o9 : Int))), (16, .int (iI 0)), (17, .int (iI 0))]) C dL_law_1001 (by decide) rfl ?_
  obtain ⟨l9, hl9⟩ : ∃ n9 : Nat, n9 = 1 + r997 := ⟨_, rfl⟩
  refine KLvE (lv2 := [(18, .int (iI (l9 : Int))), (0, .ref b0), (1, .ref (q 80)), (2, .int (iI e9)), (3, .ref (q 0)), (4, .ref (q 81)), (5, .ref (q 82)), (6, .ref (q 83)), (7, .ref (q 84)), (8, .ref (q 85)), (9, .ref (q 86)), (10, .ref (q 87)), (11, .ref (q 88)), (12, .int (iI (tn : Int))), (13, .int (iI (a9 : Int))), (14, .int (iI (p9 : Int))), (15, .int (iI (o9 : Int))), (16, .int (iI 0)), (17, .int (iI 0))]) (congrArg (fun zz : Int => ([(18, .int (iI zz)), (0, .ref b0), (1, .ref (q 80)), (2, .int (iI e9)), (3, .ref (q 0)), (4, .ref (q 81)), (5, .ref (q 82)), (6, .ref (q 83)), (7, .ref (q 84)), (8, .ref (q 85)), (9, .ref (q 86)), (10, .ref (q 87)), (11, .ref (q 88)), (12, .int (iI (tn : Int))), (13, .int (iI (a9 : Int))), (14, .int (iI (p9 : Int))), (15, .int (iI (o9 : Int))), (16, .int (iI 0)), (17, .int (iI 0))] : List (Nat × Value))) (show (((1 + r997 : Nat) : Int) : Int) = (l9 : Int) from (by rw [hl9]))) ?_
  refine KAload_n C dL_law_1003 rfl 2 rfl ?_
  refine KIconst C dL_law_1004 ?_
  refine KIald  (v := (zb z : Int)) C 8 (hI.1.at0 80 20) (hI.1.ln0 80 8) ⟨by omega, by omega⟩ (by omega) hI.q2 dL_law_1005 ?_
  refine KIf_ne (tgt := 1013) C dL_law_1006 (by decide) ⟨by omega, by omega⟩ (fun c1006 => ?_) (fun c1006 => ?_)
  · refine KIconst C dL_law_1013 ?_
    refine KTop (congrArg iI (show 0 = canI z (l9 : Int) 0 from (by unfold canI; first | rw [if_pos (by omega)] | rw [if_neg (by omega)]))) ?_
    refine KIstore (lv' := [(19, .int (iI (canI z (l9 : Int) 0))), (18, .int (iI (l9 : Int))), (0, .ref b0), (1, .ref (q 80)), (2, .int (iI e9)), (3, .ref (q 0)), (4, .ref (q 81)), (5, .ref (q 82)), (6, .ref (q 83)), (7, .ref (q 84)), (8, .ref (q 85)), (9, .ref (q 86)), (10, .ref (q 87)), (11, .ref (q 88)), (12, .int (iI (tn : Int))), (13, .int (iI (a9 : Int))), (14, .int (iI (p9 : Int))), (15, .int (iI (o9 : Int))), (16, .int (iI 0)), (17, .int (iI 0))]) C dL_law_1014 (by decide) rfl ?_
    refine KIconst C dL_law_1016 ?_
    refine KIstore (lv' := [(20, .int (iI 0)), (19, .int (iI (canI z (l9 : Int) 0))), (18, .int (iI (l9 : Int))), (0, .ref b0), (1, .ref (q 80)), (2, .int (iI e9)), (3, .ref (q 0)), (4, .ref (q 81)), (5, .ref (q 82)), (6, .ref (q 83)), (7, .ref (q 84)), (8, .ref (q 85)), (9, .ref (q 86)), (10, .ref (q 87)), (11, .ref (q 88)), (12, .int (iI (tn : Int))), (13, .int (iI (a9 : Int))), (14, .int (iI (p9 : Int))), (15, .int (iI (o9 : Int))), (16, .int (iI 0)), (17, .int (iI 0))]) C dL_law_1017 (by decide) rfl ?_
    refine KLv (lv' := [(0, .ref b0), (1, .ref (q 80)), (2, .int (iI e9)), (3, .ref (q 0)), (4, .ref (q 81)), (5, .ref (q 82)), (6, .ref (q 83)), (7, .ref (q 84)), (8, .ref (q 85)), (9, .ref (q 86)), (10, .ref (q 87)), (11, .ref (q 88)), (12, .int (iI (tn : Int))), (13, .int (iI (a9 : Int))), (14, .int (iI (p9 : Int))), (15, .int (iI (o9 : Int))), (16, .int (iI 0)), (17, .int (iI 0)), (18, .int (iI (l9 : Int))), (19, .int (iI (canI z (l9 : Int) 0))), (20, .int (iI 0))]) [3, 4, 5, 6, 7, 8, 9, 10, 11, 12, 13, 14, 15, 16, 17, 18, 19, 20, 2, 1, 0] rfl ?_
    have loop1019 : ∀ (nX : Nat) (k : Nat), zo z - k < nX → (k ≤ zo z) → Wk pX l eX room_1 sX mX argsX belowX methX cX QX g 22 cells slots 1019 [(0, .ref b0), (1, .ref (q 80)), (2, .int (iI e9)), (3, .ref (q 0)), (4, .ref (q 81)), (5, .ref (q 82)), (6, .ref (q 83)), (7, .ref (q 84)), (8, .ref (q 85)), (9, .ref (q 86)), (10, .ref (q 87)), (11, .ref (q 88)), (12, .int (iI (tn : Int))), (13, .int (iI (a9 : Int))), (14, .int (iI (p9 : Int))), (15, .int (iI (o9 : Int))), (16, .int (iI 0)), (17, .int (iI 0)), (18, .int (iI (l9 : Int))), (19, .int (iI (canI z (l9 : Int) k))), (20, .int (iI (k : Int)))] [] S := by
      intro nX
      induction nX with
      | zero => intro k hm; exact absurd hm (Nat.not_lt_zero _)
      | succ nX ih1019 =>
        intro k hm1019 hk
        refine KRg (fun hR => ?_)
        have hcn := canI_b z (l9 : Int) k
        refine KIload C dL_law_1019 20 rfl ?_
        refine KAload_n C dL_law_1021 rfl 1 rfl ?_
        refine KIconst C dL_law_1022 ?_
        refine KIald  (v := (zo z : Int)) C 8 (hI.1.at0 80 20) (hI.1.ln0 80 8) ⟨by omega, by omega⟩ (by omega) hI.q1 dL_law_1023 ?_
        refine KIcmp_ge (tgt := 1072) C dL_law_1024 (by decide) ⟨by omega, by omega⟩ ⟨by omega, by omega⟩ (fun c1024 => ?_) (fun c1024 => ?_)
        · have hkz : k = zo z := by omega
          rw [hkz] at hcn
          refine KLvE (lv2 := [(0, .ref b0), (1, .ref (q 80)), (2, .int (iI e9)), (3, .ref (q 0)), (4, .ref (q 81)), (5, .ref (q 82)), (6, .ref (q 83)), (7, .ref (q 84)), (8, .ref (q 85)), (9, .ref (q 86)), (10, .ref (q 87)), (11, .ref (q 88)), (12, .int (iI (tn : Int))), (13, .int (iI (a9 : Int))), (14, .int (iI (p9 : Int))), (15, .int (iI (o9 : Int))), (16, .int (iI 0)), (17, .int (iI 0)), (18, .int (iI (l9 : Int))), (19, .int (iI (canI z (l9 : Int) (zo z)))), (20, .int (iI (k : Int)))]) (congrArg (fun zz : Int => ([(0, .ref b0), (1, .ref (q 80)), (2, .int (iI e9)), (3, .ref (q 0)), (4, .ref (q 81)), (5, .ref (q 82)), (6, .ref (q 83)), (7, .ref (q 84)), (8, .ref (q 85)), (9, .ref (q 86)), (10, .ref (q 87)), (11, .ref (q 88)), (12, .int (iI (tn : Int))), (13, .int (iI (a9 : Int))), (14, .int (iI (p9 : Int))), (15, .int (iI (o9 : Int))), (16, .int (iI 0)), (17, .int (iI 0)), (18, .int (iI (l9 : Int))), (19, .int (iI zz)), (20, .int (iI (k : Int)))] : List (Nat × Value))) (show (canI z (l9 : Int) k : Int) = canI z (l9 : Int) (zo z) from (by rw [hkz]))) ?_
          refine KIload C dL_law_1072 19 rfl ?_
          refine KIf_eq (tgt := 1083) C dL_law_1074 (by decide) ⟨by omega, by omega⟩ (fun c1074 => ?_) (fun c1074 => ?_)
          · have hoP := ho_Cap2 (z := z) (v := (l9 : Int)) ⟨by omega, by omega⟩ (by omega)
            have hWn := hW
            refine KBipush C dL_law_1083 (by decide) ?_
            refine KIstore (lv' := [(16, .int (iI (-3))), (0, .ref b0), (1, .ref (q 80)), (2, .int (iI e9)), (3, .ref (q 0)), (4, .ref (q 81)), (5, .ref (q 82)), (6, .ref (q 83)), (7, .ref (q 84)), (8, .ref (q 85)), (9, .ref (q 86)), (10, .ref (q 87)), (11, .ref (q 88)), (12, .int (iI (tn : Int))), (13, .int (iI (a9 : Int))), (14, .int (iI (p9 : Int))), (15, .int (iI (o9 : Int))), (17, .int (iI 0)), (18, .int (iI (l9 : Int))), (19, .int (iI (canI z (l9 : Int) (zo z)))), (20, .int (iI (k : Int)))]) C dL_law_1085 (by decide) rfl ?_
            refine KAload_n C dL_law_1087 rfl 2 rfl ?_
            refine KIconst C dL_law_1088 ?_
            refine KIload C dL_law_1089 19 rfl ?_
            refine KIf_eq (tgt := 1099) C dL_law_1091 (by decide) ⟨by omega, by omega⟩ (fun c1091 => ?_) (fun c1091 => absurd c1091 (by omega))
            refine KAload_n C dL_law_1099 rfl 2 rfl ?_
            refine KIconst C dL_law_1100 ?_
            refine KIald  (v := zC z) C 8 (hI.1.at0 80 20) (hI.1.ln0 80 8) ⟨by omega, by omega⟩ (by omega) hI.q0 dL_law_1101 ?_
            refine KIast C 8 (hI.1.at0 80 20) (hI.1.ln0 80 8) ⟨by omega, by omega⟩ (by omega) ⟨by omega, by omega⟩ dL_law_1102 ?_
            have hI1102 := hI.capn
            refine KAload_n C dL_law_1103 rfl 4 rfl ?_
            refine KIconst C dL_law_1104 ?_
            refine KIload C dL_law_1105 18 rfl ?_
            refine KIconst C dL_law_1107 ?_
            refine KIconst C dL_law_1108 ?_
            refine KCallSH (As := [.ref (q 0), .int (iI 3), .int (iI (l9 : Int)), .int (iI 0), .int (iI 0)]) (st := []) C hnc (ct_L_calls_setCapacity l g hnt (uI S (q 80) 0 (zC z)) q (l9 : Int) 0 0 z hI1102.1 hW hI1102.2.1 ⟨by omega, by omega⟩ (gT g) rfl) u_ml_RL_89 u_st_yL_calls u_in_RL u_cw_calls hd_yL_calls ⟨Nat.le_of_ble_eq_true rfl, Nat.le_of_ble_eq_true rfl⟩ ⟨by show cells + 2 ≤ 600128; omega, by show slots + 12 ≤ 7301064; omega⟩ (Nat.le_of_ble_eq_true rfl) dL_law_1109 rfl (fun v1109 u1109 hp1109 => ?_)
            obtain ⟨rfl, hc1109⟩ := hp1109.no hoP (by decide) (by decide : _ = ((-3) : Int))
            have hI1109 := hI1102.cp hc1109
            refine KSt (st2 := [.int (iI (-3))]) rfl ?_
            refine KRg (fun hR => ?_)
            refine KIstore (lv' := [(17, .int (iI (-3))), (16, .int (iI (-3))), (0, .ref b0), (1, .ref (q 80)), (2, .int (iI e9)), (3, .ref (q 0)), (4, .ref (q 81)), (5, .ref (q 82)), (6, .ref (q 83)), (7, .ref (q 84)), (8, .ref (q 85)), (9, .ref (q 86)), (10, .ref (q 87)), (11, .ref (q 88)), (12, .int (iI (tn : Int))), (13, .int (iI (a9 : Int))), (14, .int (iI (p9 : Int))), (15, .int (iI (o9 : Int))), (18, .int (iI (l9 : Int))), (19, .int (iI (canI z (l9 : Int) (zo z)))), (20, .int (iI (k : Int)))]) C dL_law_1112 (by decide) rfl ?_
            refine KLv (lv' := [(0, .ref b0), (1, .ref (q 80)), (2, .int (iI e9)), (3, .ref (q 0)), (4, .ref (q 81)), (5, .ref (q 82)), (6, .ref (q 83)), (7, .ref (q 84)), (8, .ref (q 85)), (9, .ref (q 86)), (10, .ref (q 87)), (11, .ref (q 88)), (12, .int (iI (tn : Int))), (16, .int (iI (-3))), (17, .int (iI (-3)))]) [2, 3, 4, 5, 6, 7, 8, 9, 10, 11, 12, 13, 14, 1, 0] rfl ?_
            exact KWiden (by omega) (by omega) (kk _ _ _ _ ⟨by omega, by omega⟩ hI1109 hWn)
          · have hoP := ho_Cap0 (z := z) (v := (l9 : Int)) ⟨by omega, by omega⟩ (by omega)
            have hWn := wf_oCap hW (l9 : Int)
            rw [hoP] at hWn
            refine KAload_n C dL_law_1077 rfl 1 rfl ?_
            refine KIconst C dL_law_1078 ?_
            refine KIald  (v := zC z) C 8 (hI.1.at0 80 20) (hI.1.ln0 80 8) ⟨by omega, by omega⟩ (by omega) hI.q0 dL_law_1079 ?_
            refine KGoto (tgt := 1085) C dL_law_1080 (by decide) ?_
            refine KIstore (lv' := [(16, .int (iI (zC z))), (0, .ref b0), (1, .ref (q 80)), (2, .int (iI e9)), (3, .ref (q 0)), (4, .ref (q 81)), (5, .ref (q 82)), (6, .ref (q 83)), (7, .ref (q 84)), (8, .ref (q 85)), (9, .ref (q 86)), (10, .ref (q 87)), (11, .ref (q 88)), (12, .int (iI (tn : Int))), (13, .int (iI (a9 : Int))), (14, .int (iI (p9 : Int))), (15, .int (iI (o9 : Int))), (17, .int (iI 0)), (18, .int (iI (l9 : Int))), (19, .int (iI (canI z (l9 : Int) (zo z)))), (20, .int (iI (k : Int)))]) C dL_law_1085 (by decide) rfl ?_
            refine KAload_n C dL_law_1087 rfl 2 rfl ?_
            refine KIconst C dL_law_1088 ?_
            refine KIload C dL_law_1089 19 rfl ?_
            refine KIf_eq (tgt := 1099) C dL_law_1091 (by decide) ⟨by omega, by omega⟩ (fun c1091 => absurd c1091 (by omega)) (fun c1091 => ?_)
            refine KIload C dL_law_1094 18 rfl ?_
            refine KGoto (tgt := 1102) C dL_law_1096 (by decide) ?_
            refine KIast C 8 (hI.1.at0 80 20) (hI.1.ln0 80 8) ⟨by omega, by omega⟩ (by omega) ⟨by omega, by omega⟩ dL_law_1102 ?_
            have hI1102 := hI.cap (v := (l9 : Int)) (by omega)
            refine KAload_n C dL_law_1103 rfl 4 rfl ?_
            refine KIconst C dL_law_1104 ?_
            refine KIload C dL_law_1105 18 rfl ?_
            refine KIconst C dL_law_1107 ?_
            refine KIconst C dL_law_1108 ?_
            refine KCallSH (As := [.ref (q 0), .int (iI 3), .int (iI (l9 : Int)), .int (iI 0), .int (iI 0)]) (st := []) C hnc (ct_L_calls_setCapacity l g hnt (uI S (q 80) 0 (l9 : Int)) q (l9 : Int) 0 0 z hI1102.1 hW hI1102.2.1 ⟨by omega, by omega⟩ (gT g) rfl) u_ml_RL_89 u_st_yL_calls u_in_RL u_cw_calls hd_yL_calls ⟨Nat.le_of_ble_eq_true rfl, Nat.le_of_ble_eq_true rfl⟩ ⟨by show cells + 2 ≤ 600128; omega, by show slots + 12 ≤ 7301064; omega⟩ (Nat.le_of_ble_eq_true rfl) dL_law_1109 rfl (fun v1109 u1109 hp1109 => ?_)
            obtain ⟨rfl, hc1109⟩ := hp1109.ok hoP
            have hI1109 := hI1102.cp hc1109
            refine KSt (st2 := [.int (iI (zC z))]) rfl ?_
            refine KRg (fun hR => ?_)
            refine KIstore (lv' := [(17, .int (iI (zC z))), (16, .int (iI (zC z))), (0, .ref b0), (1, .ref (q 80)), (2, .int (iI e9)), (3, .ref (q 0)), (4, .ref (q 81)), (5, .ref (q 82)), (6, .ref (q 83)), (7, .ref (q 84)), (8, .ref (q 85)), (9, .ref (q 86)), (10, .ref (q 87)), (11, .ref (q 88)), (12, .int (iI (tn : Int))), (13, .int (iI (a9 : Int))), (14, .int (iI (p9 : Int))), (15, .int (iI (o9 : Int))), (18, .int (iI (l9 : Int))), (19, .int (iI (canI z (l9 : Int) (zo z)))), (20, .int (iI (k : Int)))]) C dL_law_1112 (by decide) rfl ?_
            refine KLv (lv' := [(0, .ref b0), (1, .ref (q 80)), (2, .int (iI e9)), (3, .ref (q 0)), (4, .ref (q 81)), (5, .ref (q 82)), (6, .ref (q 83)), (7, .ref (q 84)), (8, .ref (q 85)), (9, .ref (q 86)), (10, .ref (q 87)), (11, .ref (q 88)), (12, .int (iI (tn : Int))), (16, .int (iI (zC z))), (17, .int (iI (zC z)))]) [2, 3, 4, 5, 6, 7, 8, 9, 10, 11, 12, 13, 14, 1, 0] rfl ?_
            exact KWiden (by omega) (by omega) (kk _ _ _ _ ⟨by omega, by omega⟩ hI1109 hWn)
        · have hkz : k < zo z := by omega
          obtain ⟨⟨w1, w2⟩, w3, w4, w5, -, -, -⟩ := hW.2.2.2.2.1 k hkz
          refine KIload C dL_law_1027 19 rfl ?_
          refine KIf_eq (tgt := 1063) C dL_law_1029 (by decide) ⟨by omega, by omega⟩ (fun c1029 => ?_) (fun c1029 => ?_)
          · refine KIconst C dL_law_1063 ?_
            refine KTop (congrArg iI (show 0 = canI z (l9 : Int) (k + 1) from (by first | exact canI_t ⟨by omega, Or.inl (by omega)⟩ | exact canI_t ⟨by omega, Or.inr (by omega)⟩ | exact canI_f (fun h9 => by omega)))) ?_
            refine KIstore (lv' := [(19, .int (iI (canI z (l9 : Int) (k + 1)))), (0, .ref b0), (1, .ref (q 80)), (2, .int (iI e9)), (3, .ref (q 0)), (4, .ref (q 81)), (5, .ref (q 82)), (6, .ref (q 83)), (7, .ref (q 84)), (8, .ref (q 85)), (9, .ref (q 86)), (10, .ref (q 87)), (11, .ref (q 88)), (12, .int (iI (tn : Int))), (13, .int (iI (a9 : Int))), (14, .int (iI (p9 : Int))), (15, .int (iI (o9 : Int))), (16, .int (iI 0)), (17, .int (iI 0)), (18, .int (iI (l9 : Int))), (20, .int (iI (k : Int)))]) C dL_law_1064 (by decide) rfl ?_
            refine KIinc (v := ((k + 1 : Nat) : Int)) (lv' := [(20, .int (iI ((k + 1 : Nat) : Int))), (19, .int (iI (canI z (l9 : Int) (k + 1)))), (0, .ref b0), (1, .ref (q 80)), (2, .int (iI e9)), (3, .ref (q 0)), (4, .ref (q 81)), (5, .ref (q 82)), (6, .ref (q 83)), (7, .ref (q 84)), (8, .ref (q 85)), (9, .ref (q 86)), (10, .ref (q 87)), (11, .ref (q 88)), (12, .int (iI (tn : Int))), (13, .int (iI (a9 : Int))), (14, .int (iI (p9 : Int))), (15, .int (iI (o9 : Int))), (16, .int (iI 0)), (17, .int (iI 0)), (18, .int (iI (l9 : Int)))]) C dL_law_1066 20 rfl (by omega) (by decide) rfl ?_
            refine KGoto (tgt := 1019) C dL_law_1069 (by decide) ?_
            refine KLv (lv' := [(0, .ref b0), (1, .ref (q 80)), (2, .int (iI e9)), (3, .ref (q 0)), (4, .ref (q 81)), (5, .ref (q 82)), (6, .ref (q 83)), (7, .ref (q 84)), (8, .ref (q 85)), (9, .ref (q 86)), (10, .ref (q 87)), (11, .ref (q 88)), (12, .int (iI (tn : Int))), (13, .int (iI (a9 : Int))), (14, .int (iI (p9 : Int))), (15, .int (iI (o9 : Int))), (16, .int (iI 0)), (17, .int (iI 0)), (18, .int (iI (l9 : Int))), (19, .int (iI (canI z (l9 : Int) (k + 1)))), (20, .int (iI ((k + 1 : Nat) : Int)))]) [2, 3, 4, 5, 6, 7, 8, 9, 10, 11, 12, 13, 14, 15, 16, 17, 18, 19, 20, 1, 0] rfl ?_
            exact ih1019 (k + 1) (by omega) (by omega)
          · refine KAload C dL_law_1032 6 rfl ?_
            refine KIconst C dL_law_1034 ?_
            refine KIload C dL_law_1035 20 rfl ?_
            refine KImul C dL_law_1037 ?_
            refine KIconst C dL_law_1038 ?_
            refine KIadd C dL_law_1039 ?_
            refine KTop (congrArg iI (show (4 * (k : Int)) + 1 = ((4 * k + 1 : Nat) : Int) from (by omega))) ?_
            refine KIald  (v := zst z (k : Int)) C 48 (hI.1.at0 83 20) (hI.1.ln0 83 48) ⟨by omega, by omega⟩ (by omega) (hI.o k hkz).2.1 dL_law_1040 ?_
            refine KIconst C dL_law_1041 ?_
            refine KIcmp_eq (tgt := 1059) C dL_law_1042 (by decide) ⟨by omega, by omega⟩ ⟨by omega, by omega⟩ (fun c1042 => ?_) (fun c1042 => ?_)
            · refine KIconst C dL_law_1059 ?_
              refine KGoto (tgt := 1064) C dL_law_1060 (by decide) ?_
              refine KTop (congrArg iI (show 1 = canI z (l9 : Int) (k + 1) from (by first | exact canI_t ⟨by omega, Or.inl (by omega)⟩ | exact canI_t ⟨by omega, Or.inr (by omega)⟩ | exact canI_f (fun h9 => by omega)))) ?_
              refine KIstore (lv' := [(19, .int (iI (canI z (l9 : Int) (k + 1)))), (0, .ref b0), (1, .ref (q 80)), (2, .int (iI e9)), (3, .ref (q 0)), (4, .ref (q 81)), (5, .ref (q 82)), (6, .ref (q 83)), (7, .ref (q 84)), (8, .ref (q 85)), (9, .ref (q 86)), (10, .ref (q 87)), (11, .ref (q 88)), (12, .int (iI (tn : Int))), (13, .int (iI (a9 : Int))), (14, .int (iI (p9 : Int))), (15, .int (iI (o9 : Int))), (16, .int (iI 0)), (17, .int (iI 0)), (18, .int (iI (l9 : Int))), (20, .int (iI (k : Int)))]) C dL_law_1064 (by decide) rfl ?_
              refine KIinc (v := ((k + 1 : Nat) : Int)) (lv' := [(20, .int (iI ((k + 1 : Nat) : Int))), (19, .int (iI (canI z (l9 : Int) (k + 1)))), (0, .ref b0), (1, .ref (q 80)), (2, .int (iI e9)), (3, .ref (q 0)), (4, .ref (q 81)), (5, .ref (q 82)), (6, .ref (q 83)), (7, .ref (q 84)), (8, .ref (q 85)), (9, .ref (q 86)), (10, .ref (q 87)), (11, .ref (q 88)), (12, .int (iI (tn : Int))), (13, .int (iI (a9 : Int))), (14, .int (iI (p9 : Int))), (15, .int (iI (o9 : Int))), (16, .int (iI 0)), (17, .int (iI 0)), (18, .int (iI (l9 : Int)))]) C dL_law_1066 20 rfl (by omega) (by decide) rfl ?_
              refine KGoto (tgt := 1019) C dL_law_1069 (by decide) ?_
              refine KLv (lv' := [(0, .ref b0), (1, .ref (q 80)), (2, .int (iI e9)), (3, .ref (q 0)), (4, .ref (q 81)), (5, .ref (q 82)), (6, .ref (q 83)), (7, .ref (q 84)), (8, .ref (q 85)), (9, .ref (q 86)), (10, .ref (q 87)), (11, .ref (q 88)), (12, .int (iI (tn : Int))), (13, .int (iI (a9 : Int))), (14, .int (iI (p9 : Int))), (15, .int (iI (o9 : Int))), (16, .int (iI 0)), (17, .int (iI 0)), (18, .int (iI (l9 : Int))), (19, .int (iI (canI z (l9 : Int) (k + 1)))), (20, .int (iI ((k + 1 : Nat) : Int)))]) [2, 3, 4, 5, 6, 7, 8, 9, 10, 11, 12, 13, 14, 15, 16, 17, 18, 19, 20, 1, 0] rfl ?_
              exact ih1019 (k + 1) (by omega) (by omega)
            · refine KAload C dL_law_1045 6 rfl ?_
              refine KIconst C dL_law_1047 ?_
              refine KIload C dL_law_1048 20 rfl ?_
              refine KImul C dL_law_1050 ?_
              refine KIconst C dL_law_1051 ?_
              refine KIadd C dL_law_1052 ?_
              refine KTop (congrArg iI (show (4 * (k : Int)) + 3 = ((4 * k + 3 : Nat) : Int) from (by omega))) ?_
              refine KIald  (v := zmn z (k : Int)) C 48 (hI.1.at0 83 20) (hI.1.ln0 83 48) ⟨by omega, by omega⟩ (by omega) (hI.o k hkz).2.2.2 dL_law_1053 ?_
              refine KIload C dL_law_1054 18 rfl ?_
              refine KIcmp_gt (tgt := 1063) C dL_law_1056 (by decide) ⟨by omega, by omega⟩ ⟨by omega, by omega⟩ (fun c1056 => ?_) (fun c1056 => ?_)
              · refine KIconst C dL_law_1063 ?_
                refine KTop (congrArg iI (show 0 = canI z (l9 : Int) (k + 1) from (by first | exact canI_t ⟨by omega, Or.inl (by omega)⟩ | exact canI_t ⟨by omega, Or.inr (by omega)⟩ | exact canI_f (fun h9 => by omega)))) ?_
                refine KIstore (lv' := [(19, .int (iI (canI z (l9 : Int) (k + 1)))), (0, .ref b0), (1, .ref (q 80)), (2, .int (iI e9)), (3, .ref (q 0)), (4, .ref (q 81)), (5, .ref (q 82)), (6, .ref (q 83)), (7, .ref (q 84)), (8, .ref (q 85)), (9, .ref (q 86)), (10, .ref (q 87)), (11, .ref (q 88)), (12, .int (iI (tn : Int))), (13, .int (iI (a9 : Int))), (14, .int (iI (p9 : Int))), (15, .int (iI (o9 : Int))), (16, .int (iI 0)), (17, .int (iI 0)), (18, .int (iI (l9 : Int))), (20, .int (iI (k : Int)))]) C dL_law_1064 (by decide) rfl ?_
                refine KIinc (v := ((k + 1 : Nat) : Int)) (lv' := [(20, .int (iI ((k + 1 : Nat) : Int))), (19, .int (iI (canI z (l9 : Int) (k + 1)))), (0, .ref b0), (1, .ref (q 80)), (2, .int (iI e9)), (3, .ref (q 0)), (4, .ref (q 81)), (5, .ref (q 82)), (6, .ref (q 83)), (7, .ref (q 84)), (8, .ref (q 85)), (9, .ref (q 86)), (10, .ref (q 87)), (11, .ref (q 88)), (12, .int (iI (tn : Int))), (13, .int (iI (a9 : Int))), (14, .int (iI (p9 : Int))), (15, .int (iI (o9 : Int))), (16, .int (iI 0)), (17, .int (iI 0)), (18, .int (iI (l9 : Int)))]) C dL_law_1066 20 rfl (by omega) (by decide) rfl ?_
                refine KGoto (tgt := 1019) C dL_law_1069 (by decide) ?_
                refine KLv (lv' := [(0, .ref b0), (1, .ref (q 80)), (2, .int (iI e9)), (3, .ref (q 0)), (4, .ref (q 81)), (5, .ref (q 82)), (6, .ref (q 83)), (7, .ref (q 84)), (8, .ref (q 85)), (9, .ref (q 86)), (10, .ref (q 87)), (11, .ref (q 88)), (12, .int (iI (tn : Int))), (13, .int (iI (a9 : Int))), (14, .int (iI (p9 : Int))), (15, .int (iI (o9 : Int))), (16, .int (iI 0)), (17, .int (iI 0)), (18, .int (iI (l9 : Int))), (19, .int (iI (canI z (l9 : Int) (k + 1)))), (20, .int (iI ((k + 1 : Nat) : Int)))]) [2, 3, 4, 5, 6, 7, 8, 9, 10, 11, 12, 13, 14, 15, 16, 17, 18, 19, 20, 1, 0] rfl ?_
                exact ih1019 (k + 1) (by omega) (by omega)
              · refine KIconst C dL_law_1059 ?_
                refine KGoto (tgt := 1064) C dL_law_1060 (by decide) ?_
                refine KTop (congrArg iI (show 1 = canI z (l9 : Int) (k + 1) from (by first | exact canI_t ⟨by omega, Or.inl (by omega)⟩ | exact canI_t ⟨by omega, Or.inr (by omega)⟩ | exact canI_f (fun h9 => by omega)))) ?_
                refine KIstore (lv' := [(19, .int (iI (canI z (l9 : Int) (k + 1)))), (0, .ref b0), (1, .ref (q 80)), (2, .int (iI e9)), (3, .ref (q 0)), (4, .ref (q 81)), (5, .ref (q 82)), (6, .ref (q 83)), (7, .ref (q 84)), (8, .ref (q 85)), (9, .ref (q 86)), (10, .ref (q 87)), (11, .ref (q 88)), (12, .int (iI (tn : Int))), (13, .int (iI (a9 : Int))), (14, .int (iI (p9 : Int))), (15, .int (iI (o9 : Int))), (16, .int (iI 0)), (17, .int (iI 0)), (18, .int (iI (l9 : Int))), (20, .int (iI (k : Int)))]) C dL_law_1064 (by decide) rfl ?_
                refine KIinc (v := ((k + 1 : Nat) : Int)) (lv' := [(20, .int (iI ((k + 1 : Nat) : Int))), (19, .int (iI (canI z (l9 : Int) (k + 1)))), (0, .ref b0), (1, .ref (q 80)), (2, .int (iI e9)), (3, .ref (q 0)), (4, .ref (q 81)), (5, .ref (q 82)), (6, .ref (q 83)), (7, .ref (q 84)), (8, .ref (q 85)), (9, .ref (q 86)), (10, .ref (q 87)), (11, .ref (q 88)), (12, .int (iI (tn : Int))), (13, .int (iI (a9 : Int))), (14, .int (iI (p9 : Int))), (15, .int (iI (o9 : Int))), (16, .int (iI 0)), (17, .int (iI 0)), (18, .int (iI (l9 : Int)))]) C dL_law_1066 20 rfl (by omega) (by decide) rfl ?_
                refine KGoto (tgt := 1019) C dL_law_1069 (by decide) ?_
                refine KLv (lv' := [(0, .ref b0), (1, .ref (q 80)), (2, .int (iI e9)), (3, .ref (q 0)), (4, .ref (q 81)), (5, .ref (q 82)), (6, .ref (q 83)), (7, .ref (q 84)), (8, .ref (q 85)), (9, .ref (q 86)), (10, .ref (q 87)), (11, .ref (q 88)), (12, .int (iI (tn : Int))), (13, .int (iI (a9 : Int))), (14, .int (iI (p9 : Int))), (15, .int (iI (o9 : Int))), (16, .int (iI 0)), (17, .int (iI 0)), (18, .int (iI (l9 : Int))), (19, .int (iI (canI z (l9 : Int) (k + 1)))), (20, .int (iI ((k + 1 : Nat) : Int)))]) [2, 3, 4, 5, 6, 7, 8, 9, 10, 11, 12, 13, 14, 15, 16, 17, 18, 19, 20, 1, 0] rfl ?_
                exact ih1019 (k + 1) (by omega) (by omega)
    exact loop1019 _ 0 (Nat.lt_succ_self _) (by omega)
  · refine KIconst C dL_law_1009 ?_
    refine KGoto (tgt := 1014) C dL_law_1010 (by decide) ?_
    refine KTop (congrArg iI (show 1 = canI z (l9 : Int) 0 from (by unfold canI; first | rw [if_pos (by omega)] | rw [if_neg (by omega)]))) ?_
    refine KIstore (lv' := [(19, .int (iI (canI z (l9 : Int) 0))), (18, .int (iI (l9 : Int))), (0, .ref b0), (1, .ref (q 80)), (2, .int (iI e9)), (3, .ref (q 0)), (4, .ref (q 81)), (5, .ref (q 82)), (6, .ref (q 83)), (7, .ref (q 84)), (8, .ref (q 85)), (9, .ref (q 86)), (10, .ref (q 87)), (11, .ref (q 88)), (12, .int (iI (tn : Int))), (13, .int (iI (a9 : Int))), (14, .int (iI (p9 : Int))), (15, .int (iI (o9 : Int))), (16, .int (iI 0)), (17, .int (iI 0))]) C dL_law_1014 (by decide) rfl ?_
    refine KIconst C dL_law_1016 ?_
    refine KIstore (lv' := [(20, .int (iI 0)), (19, .int (iI (canI z (l9 : Int) 0))), (18, .int (iI (l9 : Int))), (0, .ref b0), (1, .ref (q 80)), (2, .int (iI e9)), (3, .ref (q 0)), (4, .ref (q 81)), (5, .ref (q 82)), (6, .ref (q 83)), (7, .ref (q 84)), (8, .ref (q 85)), (9, .ref (q 86)), (10, .ref (q 87)), (11, .ref (q 88)), (12, .int (iI (tn : Int))), (13, .int (iI (a9 : Int))), (14, .int (iI (p9 : Int))), (15, .int (iI (o9 : Int))), (16, .int (iI 0)), (17, .int (iI 0))]) C dL_law_1017 (by decide) rfl ?_
    refine KLv (lv' := [(0, .ref b0), (1, .ref (q 80)), (2, .int (iI e9)), (3, .ref (q 0)), (4, .ref (q 81)), (5, .ref (q 82)), (6, .ref (q 83)), (7, .ref (q 84)), (8, .ref (q 85)), (9, .ref (q 86)), (10, .ref (q 87)), (11, .ref (q 88)), (12, .int (iI (tn : Int))), (13, .int (iI (a9 : Int))), (14, .int (iI (p9 : Int))), (15, .int (iI (o9 : Int))), (16, .int (iI 0)), (17, .int (iI 0)), (18, .int (iI (l9 : Int))), (19, .int (iI (canI z (l9 : Int) 0))), (20, .int (iI 0))]) [3, 4, 5, 6, 7, 8, 9, 10, 11, 12, 13, 14, 15, 16, 17, 18, 19, 20, 2, 1, 0] rfl ?_
    have loop1019 : ∀ (nX : Nat) (k : Nat), zo z - k < nX → (k ≤ zo z) → Wk pX l eX room_1 sX mX argsX belowX methX cX QX g 22 cells slots 1019 [(0, .ref b0), (1, .ref (q 80)), (2, .int (iI e9)), (3, .ref (q 0)), (4, .ref (q 81)), (5, .ref (q 82)), (6, .ref (q 83)), (7, .ref (q 84)), (8, .ref (q 85)), (9, .ref (q 86)), (10, .ref (q 87)), (11, .ref (q 88)), (12, .int (iI (tn : Int))), (13, .int (iI (a9 : Int))), (14, .int (iI (p9 : Int))), (15, .int (iI (o9 : Int))), (16, .int (iI 0)), (17, .int (iI 0)), (18, .int (iI (l9 : Int))), (19, .int (iI (canI z (l9 : Int) k))), (20, .int (iI (k : Int)))] [] S := by
      intro nX
      induction nX with
      | zero => intro k hm; exact absurd hm (Nat.not_lt_zero _)
      | succ nX ih1019 =>
        intro k hm1019 hk
        refine KRg (fun hR => ?_)
        have hcn := canI_b z (l9 : Int) k
        refine KIload C dL_law_1019 20 rfl ?_
        refine KAload_n C dL_law_1021 rfl 1 rfl ?_
        refine KIconst C dL_law_1022 ?_
        refine KIald  (v := (zo z : Int)) C 8 (hI.1.at0 80 20) (hI.1.ln0 80 8) ⟨by omega, by omega⟩ (by omega) hI.q1 dL_law_1023 ?_
        refine KIcmp_ge (tgt := 1072) C dL_law_1024 (by decide) ⟨by omega, by omega⟩ ⟨by omega, by omega⟩ (fun c1024 => ?_) (fun c1024 => ?_)
        · have hkz : k = zo z := by omega
          rw [hkz] at hcn
          refine KLvE (lv2 := [(0, .ref b0), (1, .ref (q 80)), (2, .int (iI e9)), (3, .ref (q 0)), (4, .ref (q 81)), (5, .ref (q 82)), (6, .ref (q 83)), (7, .ref (q 84)), (8, .ref (q 85)), (9, .ref (q 86)), (10, .ref (q 87)), (11, .ref (q 88)), (12, .int (iI (tn : Int))), (13, .int (iI (a9 : Int))), (14, .int (iI (p9 : Int))), (15, .int (iI (o9 : Int))), (16, .int (iI 0)), (17, .int (iI 0)), (18, .int (iI (l9 : Int))), (19, .int (iI (canI z (l9 : Int) (zo z)))), (20, .int (iI (k : Int)))]) (congrArg (fun zz : Int => ([(0, .ref b0), (1, .ref (q 80)), (2, .int (iI e9)), (3, .ref (q 0)), (4, .ref (q 81)), (5, .ref (q 82)), (6, .ref (q 83)), (7, .ref (q 84)), (8, .ref (q 85)), (9, .ref (q 86)), (10, .ref (q 87)), (11, .ref (q 88)), (12, .int (iI (tn : Int))), (13, .int (iI (a9 : Int))), (14, .int (iI (p9 : Int))), (15, .int (iI (o9 : Int))), (16, .int (iI 0)), (17, .int (iI 0)), (18, .int (iI (l9 : Int))), (19, .int (iI zz)), (20, .int (iI (k : Int)))] : List (Nat × Value))) (show (canI z (l9 : Int) k : Int) = canI z (l9 : Int) (zo z) from (by rw [hkz]))) ?_
          refine KIload C dL_law_1072 19 rfl ?_
          refine KIf_eq (tgt := 1083) C dL_law_1074 (by decide) ⟨by omega, by omega⟩ (fun c1074 => ?_) (fun c1074 => ?_)
          · have hoP := ho_Cap2 (z := z) (v := (l9 : Int)) ⟨by omega, by omega⟩ (by omega)
            have hWn := hW
            refine KBipush C dL_law_1083 (by decide) ?_
            refine KIstore (lv' := [(16, .int (iI (-3))), (0, .ref b0), (1, .ref (q 80)), (2, .int (iI e9)), (3, .ref (q 0)), (4, .ref (q 81)), (5, .ref (q 82)), (6, .ref (q 83)), (7, .ref (q 84)), (8, .ref (q 85)), (9, .ref (q 86)), (10, .ref (q 87)), (11, .ref (q 88)), (12, .int (iI (tn : Int))), (13, .int (iI (a9 : Int))), (14, .int (iI (p9 : Int))), (15, .int (iI (o9 : Int))), (17, .int (iI 0)), (18, .int (iI (l9 : Int))), (19, .int (iI (canI z (l9 : Int) (zo z)))), (20, .int (iI (k : Int)))]) C dL_law_1085 (by decide) rfl ?_
            refine KAload_n C dL_law_1087 rfl 2 rfl ?_
            refine KIconst C dL_law_1088 ?_
            refine KIload C dL_law_1089 19 rfl ?_
            refine KIf_eq (tgt := 1099) C dL_law_1091 (by decide) ⟨by omega, by omega⟩ (fun c1091 => ?_) (fun c1091 => absurd c1091 (by omega))
            refine KAload_n C dL_law_1099 rfl 2 rfl ?_
            refine KIconst C dL_law_1100 ?_
            refine KIald  (v := zC z) C 8 (hI.1.at0 80 20) (hI.1.ln0 80 8) ⟨by omega, by omega⟩ (by omega) hI.q0 dL_law_1101 ?_
            refine KIast C 8 (hI.1.at0 80 20) (hI.1.ln0 80 8) ⟨by omega, by omega⟩ (by omega) ⟨by omega, by omega⟩ dL_law_1102 ?_
            have hI1102 := hI.capn
            refine KAload_n C dL_law_1103 rfl 4 rfl ?_
            refine KIconst C dL_law_1104 ?_
            refine KIload C dL_law_1105 18 rfl ?_
            refine KIconst C dL_law_1107 ?_
            refine KIconst C dL_law_1108 ?_
            refine KCallSH (As := [.ref (q 0), .int (iI 3), .int (iI (l9 : Int)), .int (iI 0), .int (iI 0)]) (st := []) C hnc (ct_L_calls_setCapacity l g hnt (uI S (q 80) 0 (zC z)) q (l9 : Int) 0 0 z hI1102.1 hW hI1102.2.1 ⟨by omega, by omega⟩ (gT g) rfl) u_ml_RL_89 u_st_yL_calls u_in_RL u_cw_calls hd_yL_calls ⟨Nat.le_of_ble_eq_true rfl, Nat.le_of_ble_eq_true rfl⟩ ⟨by show cells + 2 ≤ 600128; omega, by show slots + 12 ≤ 7301064; omega⟩ (Nat.le_of_ble_eq_true rfl) dL_law_1109 rfl (fun v1109 u1109 hp1109 => ?_)
            obtain ⟨rfl, hc1109⟩ := hp1109.no hoP (by decide) (by decide : _ = ((-3) : Int))
            have hI1109 := hI1102.cp hc1109
            refine KSt (st2 := [.int (iI (-3))]) rfl ?_
            refine KRg (fun hR => ?_)
            refine KIstore (lv' := [(17, .int (iI (-3))), (16, .int (iI (-3))), (0, .ref b0), (1, .ref (q 80)), (2, .int (iI e9)), (3, .ref (q 0)), (4, .ref (q 81)), (5, .ref (q 82)), (6, .ref (q 83)), (7, .ref (q 84)), (8, .ref (q 85)), (9, .ref (q 86)), (10, .ref (q 87)), (11, .ref (q 88)), (12, .int (iI (tn : Int))), (13, .int (iI (a9 : Int))), (14, .int (iI (p9 : Int))), (15, .int (iI (o9 : Int))), (18, .int (iI (l9 : Int))), (19, .int (iI (canI z (l9 : Int) (zo z)))), (20, .int (iI (k : Int)))]) C dL_law_1112 (by decide) rfl ?_
            refine KLv (lv' := [(0, .ref b0), (1, .ref (q 80)), (2, .int (iI e9)), (3, .ref (q 0)), (4, .ref (q 81)), (5, .ref (q 82)), (6, .ref (q 83)), (7, .ref (q 84)), (8, .ref (q 85)), (9, .ref (q 86)), (10, .ref (q 87)), (11, .ref (q 88)), (12, .int (iI (tn : Int))), (16, .int (iI (-3))), (17, .int (iI (-3)))]) [2, 3, 4, 5, 6, 7, 8, 9, 10, 11, 12, 13, 14, 1, 0] rfl ?_
            exact KWiden (by omega) (by omega) (kk _ _ _ _ ⟨by omega, by omega⟩ hI1109 hWn)
          · have hoP := ho_Cap0 (z := z) (v := (l9 : Int)) ⟨by omega, by omega⟩ (by omega)
            have hWn := wf_oCap hW (l9 : Int)
            rw [hoP] at hWn
            refine KAload_n C dL_law_1077 rfl 1 rfl ?_
            refine KIconst C dL_law_1078 ?_
            refine KIald  (v := zC z) C 8 (hI.1.at0 80 20) (hI.1.ln0 80 8) ⟨by omega, by omega⟩ (by omega) hI.q0 dL_law_1079 ?_
            refine KGoto (tgt := 1085) C dL_law_1080 (by decide) ?_
            refine KIstore (lv' := [(16, .int (iI (zC z))), (0, .ref b0), (1, .ref (q 80)), (2, .int (iI e9)), (3, .ref (q 0)), (4, .ref (q 81)), (5, .ref (q 82)), (6, .ref (q 83)), (7, .ref (q 84)), (8, .ref (q 85)), (9, .ref (q 86)), (10, .ref (q 87)), (11, .ref (q 88)), (12, .int (iI (tn : Int))), (13, .int (iI (a9 : Int))), (14, .int (iI (p9 : Int))), (15, .int (iI (o9 : Int))), (17, .int (iI 0)), (18, .int (iI (l9 : Int))), (19, .int (iI (canI z (l9 : Int) (zo z)))), (20, .int (iI (k : Int)))]) C dL_law_1085 (by decide) rfl ?_
            refine KAload_n C dL_law_1087 rfl 2 rfl ?_
            refine KIconst C dL_law_1088 ?_
            refine KIload C dL_law_1089 19 rfl ?_
            refine KIf_eq (tgt := 1099) C dL_law_1091 (by decide) ⟨by omega, by omega⟩ (fun c1091 => absurd c1091 (by omega)) (fun c1091 => ?_)
            refine KIload C dL_law_1094 18 rfl ?_
            refine KGoto (tgt := 1102) C dL_law_1096 (by decide) ?_
            refine KIast C 8 (hI.1.at0 80 20) (hI.1.ln0 80 8) ⟨by omega, by omega⟩ (by omega) ⟨by omega, by omega⟩ dL_law_1102 ?_
            have hI1102 := hI.cap (v := (l9 : Int)) (by omega)
            refine KAload_n C dL_law_1103 rfl 4 rfl ?_
            refine KIconst C dL_law_1104 ?_
            refine KIload C dL_law_1105 18 rfl ?_
            refine KIconst C dL_law_1107 ?_
            refine KIconst C dL_law_1108 ?_
            refine KCallSH (As := [.ref (q 0), .int (iI 3), .int (iI (l9 : Int)), .int (iI 0), .int (iI 0)]) (st := []) C hnc (ct_L_calls_setCapacity l g hnt (uI S (q 80) 0 (l9 : Int)) q (l9 : Int) 0 0 z hI1102.1 hW hI1102.2.1 ⟨by omega, by omega⟩ (gT g) rfl) u_ml_RL_89 u_st_yL_calls u_in_RL u_cw_calls hd_yL_calls ⟨Nat.le_of_ble_eq_true rfl, Nat.le_of_ble_eq_true rfl⟩ ⟨by show cells + 2 ≤ 600128; omega, by show slots + 12 ≤ 7301064; omega⟩ (Nat.le_of_ble_eq_true rfl) dL_law_1109 rfl (fun v1109 u1109 hp1109 => ?_)
            obtain ⟨rfl, hc1109⟩ := hp1109.ok hoP
            have hI1109 := hI1102.cp hc1109
            refine KSt (st2 := [.int (iI (zC z))]) rfl ?_
            refine KRg (fun hR => ?_)
            refine KIstore (lv' := [(17, .int (iI (zC z))), (16, .int (iI (zC z))), (0, .ref b0), (1, .ref (q 80)), (2, .int (iI e9)), (3, .ref (q 0)), (4, .ref (q 81)), (5, .ref (q 82)), (6, .ref (q 83)), (7, .ref (q 84)), (8, .ref (q 85)), (9, .ref (q 86)), (10, .ref (q 87)), (11, .ref (q 88)), (12, .int (iI (tn : Int))), (13, .int (iI (a9 : Int))), (14, .int (iI (p9 : Int))), (15, .int (iI (o9 : Int))), (18, .int (iI (l9 : Int))), (19, .int (iI (canI z (l9 : Int) (zo z)))), (20, .int (iI (k : Int)))]) C dL_law_1112 (by decide) rfl ?_
            refine KLv (lv' := [(0, .ref b0), (1, .ref (q 80)), (2, .int (iI e9)), (3, .ref (q 0)), (4, .ref (q 81)), (5, .ref (q 82)), (6, .ref (q 83)), (7, .ref (q 84)), (8, .ref (q 85)), (9, .ref (q 86)), (10, .ref (q 87)), (11, .ref (q 88)), (12, .int (iI (tn : Int))), (16, .int (iI (zC z))), (17, .int (iI (zC z)))]) [2, 3, 4, 5, 6, 7, 8, 9, 10, 11, 12, 13, 14, 1, 0] rfl ?_
            exact KWiden (by omega) (by omega) (kk _ _ _ _ ⟨by omega, by omega⟩ hI1109 hWn)
        · have hkz : k < zo z := by omega
          obtain ⟨⟨w1, w2⟩, w3, w4, w5, -, -, -⟩ := hW.2.2.2.2.1 k hkz
          refine KIload C dL_law_1027 19 rfl ?_
          refine KIf_eq (tgt := 1063) C dL_law_1029 (by decide) ⟨by omega, by omega⟩ (fun c1029 => ?_) (fun c1029 => ?_)
          · refine KIconst C dL_law_1063 ?_
            refine KTop (congrArg iI (show 0 = canI z (l9 : Int) (k + 1) from (by first | exact canI_t ⟨by omega, Or.inl (by omega)⟩ | exact canI_t ⟨by omega, Or.inr (by omega)⟩ | exact canI_f (fun h9 => by omega)))) ?_
            refine KIstore (lv' := [(19, .int (iI (canI z (l9 : Int) (k + 1)))), (0, .ref b0), (1, .ref (q 80)), (2, .int (iI e9)), (3, .ref (q 0)), (4, .ref (q 81)), (5, .ref (q 82)), (6, .ref (q 83)), (7, .ref (q 84)), (8, .ref (q 85)), (9, .ref (q 86)), (10, .ref (q 87)), (11, .ref (q 88)), (12, .int (iI (tn : Int))), (13, .int (iI (a9 : Int))), (14, .int (iI (p9 : Int))), (15, .int (iI (o9 : Int))), (16, .int (iI 0)), (17, .int (iI 0)), (18, .int (iI (l9 : Int))), (20, .int (iI (k : Int)))]) C dL_law_1064 (by decide) rfl ?_
            refine KIinc (v := ((k + 1 : Nat) : Int)) (lv' := [(20, .int (iI ((k + 1 : Nat) : Int))), (19, .int (iI (canI z (l9 : Int) (k + 1)))), (0, .ref b0), (1, .ref (q 80)), (2, .int (iI e9)), (3, .ref (q 0)), (4, .ref (q 81)), (5, .ref (q 82)), (6, .ref (q 83)), (7, .ref (q 84)), (8, .ref (q 85)), (9, .ref (q 86)), (10, .ref (q 87)), (11, .ref (q 88)), (12, .int (iI (tn : Int))), (13, .int (iI (a9 : Int))), (14, .int (iI (p9 : Int))), (15, .int (iI (o9 : Int))), (16, .int (iI 0)), (17, .int (iI 0)), (18, .int (iI (l9 : Int)))]) C dL_law_1066 20 rfl (by omega) (by decide) rfl ?_
            refine KGoto (tgt := 1019) C dL_law_1069 (by decide) ?_
            refine KLv (lv' := [(0, .ref b0), (1, .ref (q 80)), (2, .int (iI e9)), (3, .ref (q 0)), (4, .ref (q 81)), (5, .ref (q 82)), (6, .ref (q 83)), (7, .ref (q 84)), (8, .ref (q 85)), (9, .ref (q 86)), (10, .ref (q 87)), (11, .ref (q 88)), (12, .int (iI (tn : Int))), (13, .int (iI (a9 : Int))), (14, .int (iI (p9 : Int))), (15, .int (iI (o9 : Int))), (16, .int (iI 0)), (17, .int (iI 0)), (18, .int (iI (l9 : Int))), (19, .int (iI (canI z (l9 : Int) (k + 1)))), (20, .int (iI ((k + 1 : Nat) : Int)))]) [2, 3, 4, 5, 6, 7, 8, 9, 10, 11, 12, 13, 14, 15, 16, 17, 18, 19, 20, 1, 0] rfl ?_
            exact ih1019 (k + 1) (by omega) (by omega)
          · refine KAload C dL_law_1032 6 rfl ?_
            refine KIconst C dL_law_1034 ?_
            refine KIload C dL_law_1035 20 rfl ?_
            refine KImul C dL_law_1037 ?_
            refine KIconst C dL_law_1038 ?_
            refine KIadd C dL_law_1039 ?_
            refine KTop (congrArg iI (show (4 * (k : Int)) + 1 = ((4 * k + 1 : Nat) : Int) from (by omega))) ?_
            refine KIald  (v := zst z (k : Int)) C 48 (hI.1.at0 83 20) (hI.1.ln0 83 48) ⟨by omega, by omega⟩ (by omega) (hI.o k hkz).2.1 dL_law_1040 ?_
            refine KIconst C dL_law_1041 ?_
            refine KIcmp_eq (tgt := 1059) C dL_law_1042 (by decide) ⟨by omega, by omega⟩ ⟨by omega, by omega⟩ (fun c1042 => ?_) (fun c1042 => ?_)
            · refine KIconst C dL_law_1059 ?_
              refine KGoto (tgt := 1064) C dL_law_1060 (by decide) ?_
              refine KTop (congrArg iI (show 1 = canI z (l9 : Int) (k + 1) from (by first | exact canI_t ⟨by omega, Or.inl (by omega)⟩ | exact canI_t ⟨by omega, Or.inr (by omega)⟩ | exact canI_f (fun h9 => by omega)))) ?_
              refine KIstore (lv' := [(19, .int (iI (canI z (l9 : Int) (k + 1)))), (0, .ref b0), (1, .ref (q 80)), (2, .int (iI e9)), (3, .ref (q 0)), (4, .ref (q 81)), (5, .ref (q 82)), (6, .ref (q 83)), (7, .ref (q 84)), (8, .ref (q 85)), (9, .ref (q 86)), (10, .ref (q 87)), (11, .ref (q 88)), (12, .int (iI (tn : Int))), (13, .int (iI (a9 : Int))), (14, .int (iI (p9 : Int))), (15, .int (iI (o9 : Int))), (16, .int (iI 0)), (17, .int (iI 0)), (18, .int (iI (l9 : Int))), (20, .int (iI (k : Int)))]) C dL_law_1064 (by decide) rfl ?_
              refine KIinc (v := ((k + 1 : Nat) : Int)) (lv' := [(20, .int (iI ((k + 1 : Nat) : Int))), (19, .int (iI (canI z (l9 : Int) (k + 1)))), (0, .ref b0), (1, .ref (q 80)), (2, .int (iI e9)), (3, .ref (q 0)), (4, .ref (q 81)), (5, .ref (q 82)), (6, .ref (q 83)), (7, .ref (q 84)), (8, .ref (q 85)), (9, .ref (q 86)), (10, .ref (q 87)), (11, .ref (q 88)), (12, .int (iI (tn : Int))), (13, .int (iI (a9 : Int))), (14, .int (iI (p9 : Int))), (15, .int (iI (o9 : Int))), (16, .int (iI 0)), (17, .int (iI 0)), (18, .int (iI (l9 : Int)))]) C dL_law_1066 20 rfl (by omega) (by decide) rfl ?_
              refine KGoto (tgt := 1019) C dL_law_1069 (by decide) ?_
              refine KLv (lv' := [(0, .ref b0), (1, .ref (q 80)), (2, .int (iI e9)), (3, .ref (q 0)), (4, .ref (q 81)), (5, .ref (q 82)), (6, .ref (q 83)), (7, .ref (q 84)), (8, .ref (q 85)), (9, .ref (q 86)), (10, .ref (q 87)), (11, .ref (q 88)), (12, .int (iI (tn : Int))), (13, .int (iI (a9 : Int))), (14, .int (iI (p9 : Int))), (15, .int (iI (o9 : Int))), (16, .int (iI 0)), (17, .int (iI 0)), (18, .int (iI (l9 : Int))), (19, .int (iI (canI z (l9 : Int) (k + 1)))), (20, .int (iI ((k + 1 : Nat) : Int)))]) [2, 3, 4, 5, 6, 7, 8, 9, 10, 11, 12, 13, 14, 15, 16, 17, 18, 19, 20, 1, 0] rfl ?_
              exact ih1019 (k + 1) (by omega) (by omega)
            · refine KAload C dL_law_1045 6 rfl ?_
              refine KIconst C dL_law_1047 ?_
              refine KIload C dL_law_1048 20 rfl ?_
              refine KImul C dL_law_1050 ?_
              refine KIconst C dL_law_1051 ?_
              refine KIadd C dL_law_1052 ?_
              refine KTop (congrArg iI (show (4 * (k : Int)) + 3 = ((4 * k + 3 : Nat) : Int) from (by omega))) ?_
              refine KIald  (v := zmn z (k : Int)) C 48 (hI.1.at0 83 20) (hI.1.ln0 83 48) ⟨by omega, by omega⟩ (by omega) (hI.o k hkz).2.2.2 dL_law_1053 ?_
              refine KIload C dL_law_1054 18 rfl ?_
              refine KIcmp_gt (tgt := 1063) C dL_law_1056 (by decide) ⟨by omega, by omega⟩ ⟨by omega, by omega⟩ (fun c1056 => ?_) (fun c1056 => ?_)
              · refine KIconst C dL_law_1063 ?_
                refine KTop (congrArg iI (show 0 = canI z (l9 : Int) (k + 1) from (by first | exact canI_t ⟨by omega, Or.inl (by omega)⟩ | exact canI_t ⟨by omega, Or.inr (by omega)⟩ | exact canI_f (fun h9 => by omega)))) ?_
                refine KIstore (lv' := [(19, .int (iI (canI z (l9 : Int) (k + 1)))), (0, .ref b0), (1, .ref (q 80)), (2, .int (iI e9)), (3, .ref (q 0)), (4, .ref (q 81)), (5, .ref (q 82)), (6, .ref (q 83)), (7, .ref (q 84)), (8, .ref (q 85)), (9, .ref (q 86)), (10, .ref (q 87)), (11, .ref (q 88)), (12, .int (iI (tn : Int))), (13, .int (iI (a9 : Int))), (14, .int (iI (p9 : Int))), (15, .int (iI (o9 : Int))), (16, .int (iI 0)), (17, .int (iI 0)), (18, .int (iI (l9 : Int))), (20, .int (iI (k : Int)))]) C dL_law_1064 (by decide) rfl ?_
                refine KIinc (v := ((k + 1 : Nat) : Int)) (lv' := [(20, .int (iI ((k + 1 : Nat) : Int))), (19, .int (iI (canI z (l9 : Int) (k + 1)))), (0, .ref b0), (1, .ref (q 80)), (2, .int (iI e9)), (3, .ref (q 0)), (4, .ref (q 81)), (5, .ref (q 82)), (6, .ref (q 83)), (7, .ref (q 84)), (8, .ref (q 85)), (9, .ref (q 86)), (10, .ref (q 87)), (11, .ref (q 88)), (12, .int (iI (tn : Int))), (13, .int (iI (a9 : Int))), (14, .int (iI (p9 : Int))), (15, .int (iI (o9 : Int))), (16, .int (iI 0)), (17, .int (iI 0)), (18, .int (iI (l9 : Int)))]) C dL_law_1066 20 rfl (by omega) (by decide) rfl ?_
                refine KGoto (tgt := 1019) C dL_law_1069 (by decide) ?_
                refine KLv (lv' := [(0, .ref b0), (1, .ref (q 80)), (2, .int (iI e9)), (3, .ref (q 0)), (4, .ref (q 81)), (5, .ref (q 82)), (6, .ref (q 83)), (7, .ref (q 84)), (8, .ref (q 85)), (9, .ref (q 86)), (10, .ref (q 87)), (11, .ref (q 88)), (12, .int (iI (tn : Int))), (13, .int (iI (a9 : Int))), (14, .int (iI (p9 : Int))), (15, .int (iI (o9 : Int))), (16, .int (iI 0)), (17, .int (iI 0)), (18, .int (iI (l9 : Int))), (19, .int (iI (canI z (l9 : Int) (k + 1)))), (20, .int (iI ((k + 1 : Nat) : Int)))]) [2, 3, 4, 5, 6, 7, 8, 9, 10, 11, 12, 13, 14, 15, 16, 17, 18, 19, 20, 1, 0] rfl ?_
                exact ih1019 (k + 1) (by omega) (by omega)
              · refine KIconst C dL_law_1059 ?_
                refine KGoto (tgt := 1064) C dL_law_1060 (by decide) ?_
                refine KTop (congrArg iI (show 1 = canI z (l9 : Int) (k + 1) from (by first | exact canI_t ⟨by omega, Or.inl (by omega)⟩ | exact canI_t ⟨by omega, Or.inr (by omega)⟩ | exact canI_f (fun h9 => by omega)))) ?_
                refine KIstore (lv' := [(19, .int (iI (canI z (l9 : Int) (k + 1)))), (0, .ref b0), (1, .ref (q 80)), (2, .int (iI e9)), (3, .ref (q 0)), (4, .ref (q 81)), (5, .ref (q 82)), (6, .ref (q 83)), (7, .ref (q 84)), (8, .ref (q 85)), (9, .ref (q 86)), (10, .ref (q 87)), (11, .ref (q 88)), (12, .int (iI (tn : Int))), (13, .int (iI (a9 : Int))), (14, .int (iI (p9 : Int))), (15, .int (iI (o9 : Int))), (16, .int (iI 0)), (17, .int (iI 0)), (18, .int (iI (l9 : Int))), (20, .int (iI (k : Int)))]) C dL_law_1064 (by decide) rfl ?_
                refine KIinc (v := ((k + 1 : Nat) : Int)) (lv' := [(20, .int (iI ((k + 1 : Nat) : Int))), (19, .int (iI (canI z (l9 : Int) (k + 1)))), (0, .ref b0), (1, .ref (q 80)), (2, .int (iI e9)), (3, .ref (q 0)), (4, .ref (q 81)), (5, .ref (q 82)), (6, .ref (q 83)), (7, .ref (q 84)), (8, .ref (q 85)), (9, .ref (q 86)), (10, .ref (q 87)), (11, .ref (q 88)), (12, .int (iI (tn : Int))), (13, .int (iI (a9 : Int))), (14, .int (iI (p9 : Int))), (15, .int (iI (o9 : Int))), (16, .int (iI 0)), (17, .int (iI 0)), (18, .int (iI (l9 : Int)))]) C dL_law_1066 20 rfl (by omega) (by decide) rfl ?_
                refine KGoto (tgt := 1019) C dL_law_1069 (by decide) ?_
                refine KLv (lv' := [(0, .ref b0), (1, .ref (q 80)), (2, .int (iI e9)), (3, .ref (q 0)), (4, .ref (q 81)), (5, .ref (q 82)), (6, .ref (q 83)), (7, .ref (q 84)), (8, .ref (q 85)), (9, .ref (q 86)), (10, .ref (q 87)), (11, .ref (q 88)), (12, .int (iI (tn : Int))), (13, .int (iI (a9 : Int))), (14, .int (iI (p9 : Int))), (15, .int (iI (o9 : Int))), (16, .int (iI 0)), (17, .int (iI 0)), (18, .int (iI (l9 : Int))), (19, .int (iI (canI z (l9 : Int) (k + 1)))), (20, .int (iI ((k + 1 : Nat) : Int)))]) [2, 3, 4, 5, 6, 7, 8, 9, 10, 11, 12, 13, 14, 15, 16, 17, 18, 19, 20, 1, 0] rfl ?_
                exact ih1019 (k + 1) (by omega) (by omega)
    exact loop1019 _ 0 (Nat.lt_succ_self _) (by omega)
end
