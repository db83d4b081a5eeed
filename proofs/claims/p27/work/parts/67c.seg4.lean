section
variable {pX : Program} {l : Launch} {eX : Env} {sX : State} {mX : MethodId} {argsX : Array Value} {belowX : List Frame} {methX : Method} {cX : Code} {QX : State → Prop} {g : GG} {cells slots b0 : Nat} {S : Sto} {q : Nat → Nat}
set_option maxRecDepth 100000 in
set_option maxHeartbeats 4000000 in
theorem sg_so (hnt : l.stackTraces = false) (C : Cx pX l sX mX argsX methX cX cL_law 22 RL ret g) (hnc : Ncs sX) (hc : cells + 475 ≤ 600128 ∧ slots + 4890 ≤ 7301064) (e9 : Int) (tn : Nat) (v9 : Int) (hv9 : inR v9) (htn : tn < 100) (z : Sig) (R : Int → Int) (hI : LI S q (gT g) z z R) (hW : Wf z) (kk : ∀ (U : Sto) (R2 : Int → Int), LI U q (gT g) z z R2 → Wk pX l eX room_1 sX mX argsX belowX methX cX QX g 22 (cells + 314) (slots + 1884) 148 [(0, .ref b0), (1, .ref (q 80)), (3, .ref (q 0)), (4, .ref (q 81)), (5, .ref (q 82)), (6, .ref (q 83)), (7, .ref (q 84)), (8, .ref (q 85)), (9, .ref (q 86)), (10, .ref (q 87)), (11, .ref (q 88)), (12, .int (iI ((tn + 1 : Nat) : Int)))] [] U) : Wk pX l eX room_1 sX mX argsX belowX methX cX QX g 22 cells slots 1114 [(0, .ref b0), (1, .ref (q 80)), (2, .int (iI e9)), (3, .ref (q 0)), (4, .ref (q 81)), (5, .ref (q 82)), (6, .ref (q 83)), (7, .ref (q 84)), (8, .ref (q 85)), (9, .ref (q 86)), (10, .ref (q 87)), (11, .ref (q 88)), (12, .int (iI (tn : Int))), (16, .int (iI v9)), (17, .int (iI v9))] [] S := by
  refine KRg (fun hR => ?_)
  obtain ⟨hv1, hv2⟩ := id hv9
  refine KIload C dL_law_1114 14 rfl ?_
  refine KIload C dL_law_1116 13 rfl ?_
  refine KIcmp_ne (tgt := 1144) C dL_law_1118 (by decide) ⟨by omega, by omega⟩ ⟨by omega, by omega⟩ (fun c1118 => absurd c1118 (fun h9 => h9 rfl)) (fun c1118 => ?_)
  refine KAload_n C dL_law_1121 rfl 3 rfl ?_
  refine KIload_n C dL_law_1122 rfl 2 rfl ?_
  refine KIconst C dL_law_1123 ?_
  refine KIshr (v := iI ((iI e9 >>> (iI 1 &&& 31)).toInt)) C dL_law_1124 (iI_of _).symm ?_
  refine KAload C dL_law_1125 4 rfl ?_
  refine KAload C dL_law_1127 5 rfl ?_
  refine KAload C dL_law_1129 6 rfl ?_
  refine KAload C dL_law_1131 7 rfl ?_
  refine KAload C dL_law_1133 10 rfl ?_
  refine KAload C dL_law_1135 11 rfl ?_
  refine KAload_n C dL_law_1137 rfl 1 rfl ?_
  refine KCallSM (As := [.ref (q 0), .int (iI ((iI e9 >>> (iI 1 &&& 31)).toInt)), .ref (q 81), .ref (q 82), .ref (q 83), .ref (q 84), .ref (q 87), .ref (q 88), .ref (q 80)]) (st := []) C hnc (ct_L_isSo l g hnt S q ((iI e9 >>> (iI 1 &&& 31)).toInt) z R (hI) hW (gT g) rfl) u_ml_RL_153 u_st_yL_isSo u_in_RL u_co_yL_isSo hd_yL_isSo ⟨Nat.le_of_ble_eq_true rfl, Nat.le_of_ble_eq_true rfl⟩ ⟨by show cells + 314 ≤ 600128; omega, by show slots + 1884 ≤ 7301064; omega⟩ (Nat.le_of_ble_eq_true rfl) dL_law_1138 rfl (fun v1138 u1138 hp1138 => ?_)
  obtain ⟨rfl, R1138, hI1138⟩ := hp1138
  refine KSt (st2 := [.int (iI 1)]) rfl ?_
  refine KRg (fun hR => ?_)
  refine KIf_ne (tgt := 1146) C dL_law_1141 (by decide) ⟨by omega, by omega⟩ (fun _ => ?_) (fun h => absurd h (by decide))
  refine KIinc (v := ((tn + 1 : Nat) : Int)) (lv' := [(12, .int (iI ((tn + 1 : Nat) : Int))), (0, .ref b0), (1, .ref (q 80)), (2, .int (iI e9)), (3, .ref (q 0)), (4, .ref (q 81)), (5, .ref (q 82)), (6, .ref (q 83)), (7, .ref (q 84)), (8, .ref (q 85)), (9, .ref (q 86)), (10, .ref (q 87)), (11, .ref (q 88)), (16, .int (iI v9)), (17, .int (iI v9))]) C dL_law_1146 12 rfl (by omega) (by decide) rfl ?_
  refine KGoto (tgt := 148) C dL_law_1149 (by decide) ?_
  refine KLv (lv' := [(0, .ref b0), (1, .ref (q 80)), (3, .ref (q 0)), (4, .ref (q 81)), (5, .ref (q 82)), (6, .ref (q 83)), (7, .ref (q 84)), (8, .ref (q 85)), (9, .ref (q 86)), (10, .ref (q 87)), (11, .ref (q 88)), (12, .int (iI ((tn + 1 : Nat) : Int)))]) [1, 2, 4, 5, 6, 7, 8, 9, 10, 11, 12, 0] rfl ?_
  exact kk _ _ hI1138
set_option maxRecDepth 100000 in
set_option maxHeartbeats 4000000 in
theorem sg_turn (hnt : l.stackTraces = false) (C : Cx pX l sX mX argsX methX cX cL_law 22 RL ret g) (hnc : Ncs sX) (hc : cells + 475 ≤ 600128 ∧ slots + 4890 ≤ 7301064) (L : Nat) (xs : Nat → Int32) (hX : va_X b0 L xs sX sX.heap) (hb : b0 < gB g) (hL : L ≤ 260) (tn : Nat) (htn : tn < 90) (z : Sig) (R : Int → Int) (hI : LI S q (gT g) z z R) (hW : Wf z) (kk : ∀ e9 : Int, Nxt pX l eX sX mX argsX belowX methX cX QX g q b0 e9 (tn : Int) cells slots) : Wk pX l eX room_1 sX mX argsX belowX methX cX QX g 22 cells slots 155 [(0, .ref b0), (1, .ref (q 80)), (3, .ref (q 0)), (4, .ref (q 81)), (5, .ref (q 82)), (6, .ref (q 83)), (7, .ref (q 84)), (8, .ref (q 85)), (9, .ref (q 86)), (10, .ref (q 87)), (11, .ref (q 88)), (12, .int (iI (tn : Int)))] [] S := by
  refine KRg (fun hR => ?_)
  obtain ⟨h12, h6c⟩ := hI.l12
  refine KAload_n C dL_law_155 rfl 0 rfl ?_
  refine KIload C dL_law_156 11 rfl ?_
  refine KCell C hX hb hL tn rfl (by omega) ⟨by show cells ≤ 600128; omega, by show slots ≤ 7301064; omega⟩ (Nat.le_of_ble_eq_true rfl) dL_law_158 (fun e158 => ?_)
  refine KIstore_n (lv' := [(2, .int (iI e158)), (0, .ref b0), (1, .ref (q 80)), (3, .ref (q 0)), (4, .ref (q 81)), (5, .ref (q 82)), (6, .ref (q 83)), (7, .ref (q 84)), (8, .ref (q 85)), (9, .ref (q 86)), (10, .ref (q 87)), (11, .ref (q 88)), (12, .int (iI (tn : Int)))]) C dL_law_161 rfl (by decide) rfl ?_
  refine KIload C dL_law_162 12 rfl ?_
  refine KBipush C dL_law_164 (by decide) ?_
  refine KIcmp_ge (tgt := 173) C dL_law_166 (by decide) ⟨by omega, by omega⟩ ⟨by omega, by omega⟩ (fun c166 => ?_) (fun c166 => ?_)
  · refine KIload_n C dL_law_173 rfl 0 rfl ?_
    refine KBipush C dL_law_174 (by decide) ?_
    refine KCallS (As := [.int (iI e158), .int (iI 20)]) (st := []) C (ct_L_low l g S e158 20 (by omega)) u_ml_RL_125 u_st_yL_low u_in_RL u_co_yL_low hd_yL_low ⟨Nat.le_of_ble_eq_true rfl, Nat.le_of_ble_eq_true rfl⟩ ⟨by show cells + 0 ≤ 600128; omega, by show slots + 0 ≤ 7301064; omega⟩ (Nat.le_of_ble_eq_true rfl) dL_law_176 rfl (fun v176 u176 hp176 => ?_)
    obtain ⟨rfl, rfl⟩ := hp176
    refine KSt (st2 := [.int (iI ((lowN e158 20 : Nat) : Int))]) rfl ?_
    obtain ⟨r176, hrd176⟩ : ∃ n9 : Nat, n9 = lowN e158 20 := ⟨_, rfl⟩
    have hr176 := lowN_lt (x := e158) (n := 20) (by omega)
    rw [← hrd176] at hr176
    refine KTop (congrArg iI (show ((lowN e158 20 : Nat) : Int) = (r176 : Int) from (by rw [hrd176]))) ?_
    refine KIstore (lv' := [(13, .int (iI (r176 : Int))), (2, .int (iI e158)), (0, .ref b0), (1, .ref (q 80)), (3, .ref (q 0)), (4, .ref (q 81)), (5, .ref (q 82)), (6, .ref (q 83)), (7, .ref (q 84)), (8, .ref (q 85)), (9, .ref (q 86)), (10, .ref (q 87)), (11, .ref (q 88)), (12, .int (iI (tn : Int)))]) C dL_law_179 (by decide) rfl ?_
    refine KIload_n C dL_law_181 rfl 1 rfl ?_
    refine KIconst C dL_law_182 ?_
    refine KIshr (v := iI ((iI e158 >>> (iI 5 &&& 31)).toInt)) C dL_law_183 (iI_of _).symm ?_
    refine KBipush C dL_law_184 (by decide) ?_
    refine KCallS (As := [.int (iI ((iI e158 >>> (iI 5 &&& 31)).toInt)), .int (iI 20)]) (st := []) C (ct_L_low l g S ((iI e158 >>> (iI 5 &&& 31)).toInt) 20 (by omega)) u_ml_RL_125 u_st_yL_low u_in_RL u_co_yL_low hd_yL_low ⟨Nat.le_of_ble_eq_true rfl, Nat.le_of_ble_eq_true rfl⟩ ⟨by show cells + 0 ≤ 600128; omega, by show slots + 0 ≤ 7301064; omega⟩ (Nat.le_of_ble_eq_true rfl) dL_law_186 rfl (fun v186 u186 hp186 => ?_)
    obtain ⟨rfl, rfl⟩ := hp186
    refine KSt (st2 := [.int (iI ((lowN ((iI e158 >>> (iI 5 &&& 31)).toInt) 20 : Nat) : Int))]) rfl ?_
    obtain ⟨r186, hrd186⟩ : ∃ n9 : Nat, n9 = lowN ((iI e158 >>> (iI 5 &&& 31)).toInt) 20 := ⟨_, rfl⟩
    have hr186 := lowN_lt (x := ((iI e158 >>> (iI 5 &&& 31)).toInt)) (n := 20) (by omega)
    rw [← hrd186] at hr186
    refine KTop (congrArg iI (show ((lowN ((iI e158 >>> (iI 5 &&& 31)).toInt) 20 : Nat) : Int) = (r186 : Int) from (by rw [hrd186]))) ?_
    refine KIstore (lv' := [(14, .int (iI (r186 : Int))), (13, .int (iI (r176 : Int))), (2, .int (iI e158)), (0, .ref b0), (1, .ref (q 80)), (3, .ref (q 0)), (4, .ref (q 81)), (5, .ref (q 82)), (6, .ref (q 83)), (7, .ref (q 84)), (8, .ref (q 85)), (9, .ref (q 86)), (10, .ref (q 87)), (11, .ref (q 88)), (12, .int (iI (tn : Int)))]) C dL_law_189 (by decide) rfl ?_
    refine KIload_n C dL_law_191 rfl 2 rfl ?_
    refine KBipush C dL_law_192 (by decide) ?_
    refine KIshr (v := iI ((iI e158 >>> (iI 10 &&& 31)).toInt)) C dL_law_194 (iI_of _).symm ?_
    refine KAload_n C dL_law_195 rfl 4 rfl ?_
    refine KIconst C dL_law_196 ?_
    refine KIald  (v := (zo z : Int)) C 8 (hI.1.at0 80 20) (hI.1.ln0 80 8) ⟨by omega, by omega⟩ (by omega) hI.q1 dL_law_197 ?_
    refine KIconst C dL_law_198 ?_
    refine KIadd C dL_law_199 ?_
    refine KCallS (As := [.int (iI ((iI e158 >>> (iI 10 &&& 31)).toInt)), .int (iI ((zo z : Int) + 1))]) (st := []) C (ct_L_low l g S ((iI e158 >>> (iI 10 &&& 31)).toInt) ((zo z : Int) + 1) (by omega)) u_ml_RL_125 u_st_yL_low u_in_RL u_co_yL_low hd_yL_low ⟨Nat.le_of_ble_eq_true rfl, Nat.le_of_ble_eq_true rfl⟩ ⟨by show cells + 0 ≤ 600128; omega, by show slots + 0 ≤ 7301064; omega⟩ (Nat.le_of_ble_eq_true rfl) dL_law_200 rfl (fun v200 u200 hp200 => ?_)
    obtain ⟨rfl, rfl⟩ := hp200
    refine KSt (st2 := [.int (iI ((lowN ((iI e158 >>> (iI 10 &&& 31)).toInt) ((zo z : Int) + 1) : Nat) : Int))]) rfl ?_
    obtain ⟨r200, hrd200⟩ : ∃ n9 : Nat, n9 = lowN ((iI e158 >>> (iI 10 &&& 31)).toInt) ((zo z : Int) + 1) := ⟨_, rfl⟩
    have hr200 := lowN_lt (x := ((iI e158 >>> (iI 10 &&& 31)).toInt)) (n := ((zo z : Int) + 1)) (by omega)
    rw [← hrd200] at hr200
    refine KTop (congrArg iI (show ((lowN ((iI e158 >>> (iI 10 &&& 31)).toInt) ((zo z : Int) + 1) : Nat) : Int) = (r200 : Int) from (by rw [hrd200]))) ?_
    refine KIstore (lv' := [(15, .int (iI (r200 : Int))), (14, .int (iI (r186 : Int))), (13, .int (iI (r176 : Int))), (2, .int (iI e158)), (0, .ref b0), (1, .ref (q 80)), (3, .ref (q 0)), (4, .ref (q 81)), (5, .ref (q 82)), (6, .ref (q 83)), (7, .ref (q 84)), (8, .ref (q 85)), (9, .ref (q 86)), (10, .ref (q 87)), (11, .ref (q 88)), (12, .int (iI (tn : Int)))]) C dL_law_203 (by decide) rfl ?_
    refine KIconst C dL_law_205 ?_
    refine KIstore (lv' := [(16, .int (iI 0)), (15, .int (iI (r200 : Int))), (14, .int (iI (r186 : Int))), (13, .int (iI (r176 : Int))), (2, .int (iI e158)), (0, .ref b0), (1, .ref (q 80)), (3, .ref (q 0)), (4, .ref (q 81)), (5, .ref (q 82)), (6, .ref (q 83)), (7, .ref (q 84)), (8, .ref (q 85)), (9, .ref (q 86)), (10, .ref (q 87)), (11, .ref (q 88)), (12, .int (iI (tn : Int)))]) C dL_law_206 (by decide) rfl ?_
    refine KIconst C dL_law_208 ?_
    refine KIstore (lv' := [(17, .int (iI 0)), (16, .int (iI 0)), (15, .int (iI (r200 : Int))), (14, .int (iI (r186 : Int))), (13, .int (iI (r176 : Int))), (2, .int (iI e158)), (0, .ref b0), (1, .ref (q 80)), (3, .ref (q 0)), (4, .ref (q 81)), (5, .ref (q 82)), (6, .ref (q 83)), (7, .ref (q 84)), (8, .ref (q 85)), (9, .ref (q 86)), (10, .ref (q 87)), (11, .ref (q 88)), (12, .int (iI (tn : Int)))]) C dL_law_209 (by decide) rfl ?_
    refine KIload C dL_law_211 4 rfl ?_
    refine KIconst C dL_law_213 ?_
    refine KIcmp_ge (tgt := 367) C dL_law_214 (by decide) ⟨by omega, by omega⟩ ⟨by omega, by omega⟩ (fun c214 => ?_) (fun c214 => ?_)
    · refine KIload C dL_law_367 4 rfl ?_
      refine KIconst C dL_law_369 ?_
      refine KIcmp_ge (tgt := 462) C dL_law_370 (by decide) ⟨by omega, by omega⟩ ⟨by omega, by omega⟩ (fun c370 => ?_) (fun c370 => ?_)
      · refine KIload C dL_law_462 4 rfl ?_
        refine KBipush C dL_law_464 (by decide) ?_
        refine KIcmp_ge (tgt := 705) C dL_law_466 (by decide) ⟨by omega, by omega⟩ ⟨by omega, by omega⟩ (fun c466 => ?_) (fun c466 => ?_)
        · refine KIload C dL_law_705 4 rfl ?_
          refine KBipush C dL_law_707 (by decide) ?_
          refine KIcmp_ge (tgt := 877) C dL_law_709 (by decide) ⟨by omega, by omega⟩ ⟨by omega, by omega⟩ (fun c709 => ?_) (fun c709 => ?_)
          · refine KIload C dL_law_877 4 rfl ?_
            refine KBipush C dL_law_879 (by decide) ?_
            refine KIcmp_ge (tgt := 947) C dL_law_881 (by decide) ⟨by omega, by omega⟩ ⟨by omega, by omega⟩ (fun c881 => ?_) (fun c881 => ?_)
            · refine KIload C dL_law_947 4 rfl ?_
              refine KBipush C dL_law_949 (by decide) ?_
              refine KIcmp_ne (tgt := 990) C dL_law_951 (by decide) ⟨by omega, by omega⟩ ⟨by omega, by omega⟩ (fun c951 => ?_) (fun c951 => ?_)
              · refine KLv (lv' := [(0, .ref b0), (1, .ref (q 80)), (2, .int (iI e158)), (3, .ref (q 0)), (4, .ref (q 81)), (5, .ref (q 82)), (6, .ref (q 83)), (7, .ref (q 84)), (8, .ref (q 85)), (9, .ref (q 86)), (10, .ref (q 87)), (11, .ref (q 88)), (12, .int (iI (tn : Int))), (13, .int (iI (r176 : Int))), (14, .int (iI (r186 : Int))), (15, .int (iI (r200 : Int))), (16, .int (iI 0)), (17, .int (iI 0))]) [6, 7, 5, 8, 9, 10, 11, 12, 13, 14, 15, 16, 17, 4, 3, 2, 1, 0] rfl ?_
                exact sg_cap hnt C hnc hc e158 tn r176 r186 r200 z R hI hW (by omega) (by omega) (kk e158)
              · refine KLv (lv' := [(0, .ref b0), (1, .ref (q 80)), (2, .int (iI e158)), (3, .ref (q 0)), (4, .ref (q 81)), (5, .ref (q 82)), (6, .ref (q 83)), (7, .ref (q 84)), (8, .ref (q 85)), (9, .ref (q 86)), (10, .ref (q 87)), (11, .ref (q 88)), (12, .int (iI (tn : Int))), (13, .int (iI (r176 : Int))), (14, .int (iI (r186 : Int))), (15, .int (iI (r200 : Int))), (16, .int (iI 0)), (17, .int (iI 0))]) [6, 7, 5, 8, 9, 10, 11, 12, 13, 14, 15, 16, 17, 4, 3, 2, 1, 0] rfl ?_
                exact sg_lay hnt C hnc hc e158 tn r176 r186 r200 z R hI hW (by omega) (by omega) (kk e158)
            · refine KLv (lv' := [(0, .ref b0), (1, .ref (q 80)), (2, .int (iI e158)), (3, .ref (q 0)), (4, .ref (q 81)), (5, .ref (q 82)), (6, .ref (q 83)), (7, .ref (q 84)), (8, .ref (q 85)), (9, .ref (q 86)), (10, .ref (q 87)), (11, .ref (q 88)), (12, .int (iI (tn : Int))), (13, .int (iI (r176 : Int))), (14, .int (iI (r186 : Int))), (15, .int (iI (r200 : Int))), (16, .int (iI 0)), (17, .int (iI 0))]) [6, 7, 5, 8, 9, 10, 11, 12, 13, 14, 15, 16, 17, 4, 3, 2, 1, 0] rfl ?_
              exact sg_pick hnt C hnc hc e158 tn r176 r186 r200 z R hI hW (by omega) (by omega) (kk e158)
          · refine KLv (lv' := [(0, .ref b0), (1, .ref (q 80)), (2, .int (iI e158)), (3, .ref (q 0)), (4, .ref (q 81)), (5, .ref (q 82)), (6, .ref (q 83)), (7, .ref (q 84)), (8, .ref (q 85)), (9, .ref (q 86)), (10, .ref (q 87)), (11, .ref (q 88)), (12, .int (iI (tn : Int))), (13, .int (iI (r176 : Int))), (14, .int (iI (r186 : Int))), (15, .int (iI (r200 : Int))), (16, .int (iI 0)), (17, .int (iI 0))]) [6, 7, 5, 8, 9, 10, 11, 12, 13, 14, 15, 16, 17, 4, 3, 2, 1, 0] rfl ?_
            exact sg_plan hnt C hnc hc e158 tn r176 r186 r200 z R hI hW (by omega) (by omega) (kk e158)
        · refine KLv (lv' := [(0, .ref b0), (1, .ref (q 80)), (2, .int (iI e158)), (3, .ref (q 0)), (4, .ref (q 81)), (5, .ref (q 82)), (6, .ref (q 83)), (7, .ref (q 84)), (8, .ref (q 85)), (9, .ref (q 86)), (10, .ref (q 87)), (11, .ref (q 88)), (12, .int (iI (tn : Int))), (13, .int (iI (r176 : Int))), (14, .int (iI (r186 : Int))), (15, .int (iI (r200 : Int))), (16, .int (iI 0)), (17, .int (iI 0))]) [6, 7, 5, 8, 9, 10, 11, 12, 13, 14, 15, 16, 17, 4, 3, 2, 1, 0] rfl ?_
          exact sg_line hnt C hnc hc e158 tn r176 r186 r200 z R hI hW (by omega) (by omega) (kk e158)
      · refine KAload_n C dL_law_373 rfl 7 rfl ?_
        refine KIconst C dL_law_374 ?_
        refine KIald  (v := (zo z : Int)) C 8 (hI.1.at0 80 20) (hI.1.ln0 80 8) ⟨by omega, by omega⟩ (by omega) hI.q1 dL_law_375 ?_
        refine KBipush C dL_law_376 (by decide) ?_
        refine KIcmp_ge (tgt := 462) C dL_law_378 (by decide) ⟨by omega, by omega⟩ ⟨by omega, by omega⟩ (fun c378 => ?_) (fun c378 => ?_)
        · refine KIload C dL_law_462 4 rfl ?_
          refine KBipush C dL_law_464 (by decide) ?_
          refine KIcmp_ge (tgt := 705) C dL_law_466 (by decide) ⟨by omega, by omega⟩ ⟨by omega, by omega⟩ (fun c466 => ?_) (fun c466 => ?_)
          · refine KIload C dL_law_705 4 rfl ?_
            refine KBipush C dL_law_707 (by decide) ?_
            refine KIcmp_ge (tgt := 877) C dL_law_709 (by decide) ⟨by omega, by omega⟩ ⟨by omega, by omega⟩ (fun c709 => ?_) (fun c709 => ?_)
            · refine KIload C dL_law_877 4 rfl ?_
              refine KBipush C dL_law_879 (by decide) ?_
              refine KIcmp_ge (tgt := 947) C dL_law_881 (by decide) ⟨by omega, by omega⟩ ⟨by omega, by omega⟩ (fun c881 => ?_) (fun c881 => ?_)
              · refine KIload C dL_law_947 4 rfl ?_
                refine KBipush C dL_law_949 (by decide) ?_
                refine KIcmp_ne (tgt := 990) C dL_law_951 (by decide) ⟨by omega, by omega⟩ ⟨by omega, by omega⟩ (fun c951 => ?_) (fun c951 => ?_)
                · refine KLv (lv' := [(0, .ref b0), (1, .ref (q 80)), (2, .int (iI e158)), (3, .ref (q 0)), (4, .ref (q 81)), (5, .ref (q 82)), (6, .ref (q 83)), (7, .ref (q 84)), (8, .ref (q 85)), (9, .ref (q 86)), (10, .ref (q 87)), (11, .ref (q 88)), (12, .int (iI (tn : Int))), (13, .int (iI (r176 : Int))), (14, .int (iI (r186 : Int))), (15, .int (iI (r200 : Int))), (16, .int (iI 0)), (17, .int (iI 0))]) [6, 7, 5, 8, 9, 10, 11, 12, 13, 14, 15, 16, 17, 4, 3, 2, 1, 0] rfl ?_
                  exact sg_cap hnt C hnc hc e158 tn r176 r186 r200 z R hI hW (by omega) (by omega) (kk e158)
                · refine KLv (lv' := [(0, .ref b0), (1, .ref (q 80)), (2, .int (iI e158)), (3, .ref (q 0)), (4, .ref (q 81)), (5, .ref (q 82)), (6, .ref (q 83)), (7, .ref (q 84)), (8, .ref (q 85)), (9, .ref (q 86)), (10, .ref (q 87)), (11, .ref (q 88)), (12, .int (iI (tn : Int))), (13, .int (iI (r176 : Int))), (14, .int (iI (r186 : Int))), (15, .int (iI (r200 : Int))), (16, .int (iI 0)), (17, .int (iI 0))]) [6, 7, 5, 8, 9, 10, 11, 12, 13, 14, 15, 16, 17, 4, 3, 2, 1, 0] rfl ?_
                  exact sg_lay hnt C hnc hc e158 tn r176 r186 r200 z R hI hW (by omega) (by omega) (kk e158)
              · refine KLv (lv' := [(0, .ref b0), (1, .ref (q 80)), (2, .int (iI e158)), (3, .ref (q 0)), (4, .ref (q 81)), (5, .ref (q 82)), (6, .ref (q 83)), (7, .ref (q 84)), (8, .ref (q 85)), (9, .ref (q 86)), (10, .ref (q 87)), (11, .ref (q 88)), (12, .int (iI (tn : Int))), (13, .int (iI (r176 : Int))), (14, .int (iI (r186 : Int))), (15, .int (iI (r200 : Int))), (16, .int (iI 0)), (17, .int (iI 0))]) [6, 7, 5, 8, 9, 10, 11, 12, 13, 14, 15, 16, 17, 4, 3, 2, 1, 0] rfl ?_
                exact sg_pick hnt C hnc hc e158 tn r176 r186 r200 z R hI hW (by omega) (by omega) (kk e158)
            · refine KLv (lv' := [(0, .ref b0), (1, .ref (q 80)), (2, .int (iI e158)), (3, .ref (q 0)), (4, .ref (q 81)), (5, .ref (q 82)), (6, .ref (q 83)), (7, .ref (q 84)), (8, .ref (q 85)), (9, .ref (q 86)), (10, .ref (q 87)), (11, .ref (q 88)), (12, .int (iI (tn : Int))), (13, .int (iI (r176 : Int))), (14, .int (iI (r186 : Int))), (15, .int (iI (r200 : Int))), (16, .int (iI 0)), (17, .int (iI 0))]) [6, 7, 5, 8, 9, 10, 11, 12, 13, 14, 15, 16, 17, 4, 3, 2, 1, 0] rfl ?_
              exact sg_plan hnt C hnc hc e158 tn r176 r186 r200 z R hI hW (by omega) (by omega) (kk e158)
          · refine KLv (lv' := [(0, .ref b0), (1, .ref (q 80)), (2, .int (iI e158)), (3, .ref (q 0)), (4, .ref (q 81)), (5, .ref (q 82)), (6, .ref (q 83)), (7, .ref (q 84)), (8, .ref (q 85)), (9, .ref (q 86)), (10, .ref (q 87)), (11, .ref (q 88)), (12, .int (iI (tn : Int))), (13, .int (iI (r176 : Int))), (14, .int (iI (r186 : Int))), (15, .int (iI (r200 : Int))), (16, .int (iI 0)), (17, .int (iI 0))]) [6, 7, 5, 8, 9, 10, 11, 12, 13, 14, 15, 16, 17, 4, 3, 2, 1, 0] rfl ?_
            exact sg_line hnt C hnc hc e158 tn r176 r186 r200 z R hI hW (by omega) (by omega) (kk e158)
        · refine KLv (lv' := [(0, .ref b0), (1, .ref (q 80)), (2, .int (iI e158)), (3, .ref (q 0)), (4, .ref (q 81)), (5, .ref (q 82)), (6, .ref (q 83)), (7, .ref (q 84)), (8, .ref (q 85)), (9, .ref (q 86)), (10, .ref (q 87)), (11, .ref (q 88)), (12, .int (iI (tn : Int))), (13, .int (iI (r176 : Int))), (14, .int (iI (r186 : Int))), (15, .int (iI (r200 : Int))), (16, .int (iI 0)), (17, .int (iI 0))]) [6, 7, 5, 8, 9, 10, 11, 12, 13, 14, 15, 16, 17, 4, 3, 2, 1, 0] rfl ?_
          exact sg_order hnt C hnc hc e158 tn r176 r186 r200 z R hI hW (by omega) (by omega) (by omega) (kk e158)
    · refine KLv (lv' := [(0, .ref b0), (1, .ref (q 80)), (2, .int (iI e158)), (3, .ref (q 0)), (4, .ref (q 81)), (5, .ref (q 82)), (6, .ref (q 83)), (7, .ref (q 84)), (8, .ref (q 85)), (9, .ref (q 86)), (10, .ref (q 87)), (11, .ref (q 88)), (12, .int (iI (tn : Int))), (13, .int (iI (r176 : Int))), (14, .int (iI (r186 : Int))), (15, .int (iI (r200 : Int))), (16, .int (iI 0)), (17, .int (iI 0))]) [6, 7, 5, 8, 9, 10, 11, 12, 13, 14, 15, 16, 17, 4, 3, 2, 1, 0] rfl ?_
      exact sg_put hnt C hnc hc e158 tn r176 r186 r200 z R hI hW (by omega) (by omega) (kk e158)
  · refine KIconst C dL_law_169 ?_
    refine KGoto (tgt := 179) C dL_law_170 (by decide) ?_
    refine KIstore (lv' := [(13, .int (iI 0)), (2, .int (iI e158)), (0, .ref b0), (1, .ref (q 80)), (3, .ref (q 0)), (4, .ref (q 81)), (5, .ref (q 82)), (6, .ref (q 83)), (7, .ref (q 84)), (8, .ref (q 85)), (9, .ref (q 86)), (10, .ref (q 87)), (11, .ref (q 88)), (12, .int (iI (tn : Int)))]) C dL_law_179 (by decide) rfl ?_
    refine KIload_n C dL_law_181 rfl 1 rfl ?_
    refine KIconst C dL_law_182 ?_
    refine KIshr (v := iI ((iI e158 >>> (iI 5 &&& 31)).toInt)) C dL_law_183 (iI_of _).symm ?_
    refine KBipush C dL_law_184 (by decide) ?_
    refine KCallS (As := [.int (iI ((iI e158 >>> (iI 5 &&& 31)).toInt)), .int (iI 20)]) (st := []) C (ct_L_low l g S ((iI e158 >>> (iI 5 &&& 31)).toInt) 20 (by omega)) u_ml_RL_125 u_st_yL_low u_in_RL u_co_yL_low hd_yL_low ⟨Nat.le_of_ble_eq_true rfl, Nat.le_of_ble_eq_true rfl⟩ ⟨by show cells + 0 ≤ 600128; omega, by show slots + 0 ≤ 7301064; omega⟩ (Nat.le_of_ble_eq_true rfl) dL_law_186 rfl (fun v186 u186 hp186 => ?_)
    obtain ⟨rfl, rfl⟩ := hp186
    refine KSt (st2 := [.int (iI ((lowN ((iI e158 >>> (iI 5 &&& 31)).toInt) 20 : Nat) : Int))]) rfl ?_
    obtain ⟨r186, hrd186⟩ : ∃ n9 : Nat, n9 = lowN ((iI e158 >>> (iI 5 &&& 31)).toInt) 20 := ⟨_, rfl⟩
    have hr186 := lowN_lt (x := ((iI e158 >>> (iI 5 &&& 31)).toInt)) (n := 20) (by omega)
    rw [← hrd186] at hr186
    refine KTop (congrArg iI (show ((lowN ((iI e158 >>> (iI 5 &&& 31)).toInt) 20 : Nat) : Int) = (r186 : Int) from (by rw [hrd186]))) ?_
    refine KIstore (lv' := [(14, .int (iI (r186 : Int))), (13, .int (iI 0)), (2, .int (iI e158)), (0, .ref b0), (1, .ref (q 80)), (3, .ref (q 0)), (4, .ref (q 81)), (5, .ref (q 82)), (6, .ref (q 83)), (7, .ref (q 84)), (8, .ref (q 85)), (9, .ref (q 86)), (10, .ref (q 87)), (11, .ref (q 88)), (12, .int (iI (tn : Int)))]) C dL_law_189 (by decide) rfl ?_
    refine KIload_n C dL_law_191 rfl 2 rfl ?_
    refine KBipush C dL_law_192 (by decide) ?_
    refine KIshr (v := iI ((iI e158 >>> (iI 10 &&& 31)).toInt)) C dL_law_194 (iI_of _).symm ?_
    refine KAload_n C dL_law_195 rfl 4 rfl ?_
    refine KIconst C dL_law_196 ?_
    refine KIald  (v := (zo z : Int)) C 8 (hI.1.at0 80 20) (hI.1.ln0 80 8) ⟨by omega, by omega⟩ (by omega) hI.q1 dL_law_197 ?_
    refine KIconst C dL_law_198 ?_
    refine KIadd C dL_law_199 ?_
    refine KCallS (As := [.int (iI ((iI e158 >>> (iI 10 &&& 31)).toInt)), .int (iI ((zo z : Int) + 1))]) (st := []) C (ct_L_low l g S ((iI e158 >>> (iI 10 &&& 31)).toInt) ((zo z : Int) + 1) (by omega)) u_ml_RL_125 u_st_yL_low u_in_RL u_co_yL_low hd_yL_low ⟨Nat.le_of_ble_eq_true rfl, Nat.le_of_ble_eq_true rfl⟩ ⟨by show cells + 0 ≤ 600128; omega, by show slots + 0 ≤ 7301064; omega⟩ (Nat.le_of_ble_eq_true rfl) dL_law_200 rfl (fun v200 u200 hp200 => ?_)
    obtain ⟨rfl, rfl⟩ := hp200
    refine KSt (st2 := [.int (iI ((lowN ((iI e158 >>> (iI 10 &&& 31)).toInt) ((zo z : Int) + 1) : Nat) : Int))]) rfl ?_
    obtain ⟨r200, hrd200⟩ : ∃ n9 : Nat, n9 = lowN ((iI e158 >>> (iI 10 &&& 31)).toInt) ((zo z : Int) + 1) := ⟨_, rfl⟩
    have hr200 := lowN_lt (x := ((iI e158 >>> (iI 10 &&& 31)).toInt)) (n := ((zo z : Int) + 1)) (by omega)
    rw [← hrd200] at hr200
    refine KTop (congrArg iI (show ((lowN ((iI e158 >>> (iI 10 &&& 31)).toInt) ((zo z : Int) + 1) : Nat) : Int) = (r200 : Int) from (by rw [hrd200]))) ?_
    refine KIstore (lv' := [(15, .int (iI (r200 : Int))), (14, .int (iI (r186 : Int))), (13, .int (iI 0)), (2, .int (iI e158)), (0, .ref b0), (1, .ref (q 80)), (3, .ref (q 0)), (4, .ref (q 81)), (5, .ref (q 82)), (6, .ref (q 83)), (7, .ref (q 84)), (8, .ref (q 85)), (9, .ref (q 86)), (10, .ref (q 87)), (11, .ref (q 88)), (12, .int (iI (tn : Int)))]) C dL_law_203 (by decide) rfl ?_
    refine KIconst C dL_law_205 ?_
    refine KIstore (lv' := [(16, .int (iI 0)), (15, .int (iI (r200 : Int))), (14, .int (iI (r186 : Int))), (13, .int (iI 0)), (2, .int (iI e158)), (0, .ref b0), (1, .ref (q 80)), (3, .ref (q 0)), (4, .ref (q 81)), (5, .ref (q 82)), (6, .ref (q 83)), (7, .ref (q 84)), (8, .ref (q 85)), (9, .ref (q 86)), (10, .ref (q 87)), (11, .ref (q 88)), (12, .int (iI (tn : Int)))]) C dL_law_206 (by decide) rfl ?_
    refine KIconst C dL_law_208 ?_
    refine KIstore (lv' := [(17, .int (iI 0)), (16, .int (iI 0)), (15, .int (iI (r200 : Int))), (14, .int (iI (r186 : Int))), (13, .int (iI 0)), (2, .int (iI e158)), (0, .ref b0), (1, .ref (q 80)), (3, .ref (q 0)), (4, .ref (q 81)), (5, .ref (q 82)), (6, .ref (q 83)), (7, .ref (q 84)), (8, .ref (q 85)), (9, .ref (q 86)), (10, .ref (q 87)), (11, .ref (q 88)), (12, .int (iI (tn : Int)))]) C dL_law_209 (by decide) rfl ?_
    refine KIload C dL_law_211 4 rfl ?_
    refine KIconst C dL_law_213 ?_
    refine KIcmp_ge (tgt := 367) C dL_law_214 (by decide) ⟨by omega, by omega⟩ ⟨by omega, by omega⟩ (fun h => absurd h (by decide)) (fun _ => ?_)
    refine KLv (lv' := [(0, .ref b0), (1, .ref (q 80)), (2, .int (iI e158)), (3, .ref (q 0)), (4, .ref (q 81)), (5, .ref (q 82)), (6, .ref (q 83)), (7, .ref (q 84)), (8, .ref (q 85)), (9, .ref (q 86)), (10, .ref (q 87)), (11, .ref (q 88)), (12, .int (iI (tn : Int))), (13, .int (iI 0)), (14, .int (iI (r186 : Int))), (15, .int (iI (r200 : Int))), (16, .int (iI 0)), (17, .int (iI 0))]) [6, 7, 5, 8, 9, 10, 11, 12, 13, 14, 15, 16, 17, 4, 3, 2, 1, 0] rfl ?_
    exact sg_put hnt C hnc hc e158 tn 0 r186 r200 z R hI hW (by omega) (by omega) (kk e158)
set_option maxRecDepth 100000 in
set_option maxHeartbeats 4000000 in
theorem sg_ini (hnt : l.stackTraces = false) (C : Cx pX l sX mX argsX methX cX cL_law 22 RL ret g) (hnc : Ncs sX) (hc : cells + 475 ≤ 600128 ∧ slots + 4890 ≤ 7301064) (e9 : Int) (x y d : Int) (hT : Top S q) (hCR : CR S q (gT g) (zz x y d)) (h80 : sI S (q 80) 0 = 6 ∧ sI S (q 80) 1 = 0 ∧ sI S (q 80) 2 = 0 ∧ sI S (q 80) 3 = 0 ∧ sI S (q 80) 4 = 0 ∧ sI S (q 80) 5 = x ∧ sI S (q 80) 6 = y ∧ sI S (q 80) 7 = d) (h81 : ∀ i : Nat, 81 ≤ i → i ≤ 85 → sI S (q i) = fun _ => 0) (kk : ∀ (U : Sto) (R2 : Int → Int), LI U q (gT g) (zz x y d) (zz x y d) R2 → Wk pX l eX room_1 sX mX argsX belowX methX cX QX g 22 cells slots 148 [(0, .ref b0), (1, .ref (q 80)), (3, .ref (q 0)), (4, .ref (q 81)), (5, .ref (q 82)), (6, .ref (q 83)), (7, .ref (q 84)), (8, .ref (q 85)), (9, .ref (q 86)), (10, .ref (q 87)), (11, .ref (q 88)), (12, .int (iI 1))] [] U) : Wk pX l eX room_1 sX mX argsX belowX methX cX QX g 22 cells slots 123 [(0, .ref b0), (1, .ref (q 80)), (2, .int (iI e9)), (3, .ref (q 0)), (4, .ref (q 81)), (5, .ref (q 82)), (6, .ref (q 83)), (7, .ref (q 84)), (8, .ref (q 85)), (9, .ref (q 86)), (10, .ref (q 87)), (11, .ref (q 88))] [] S := by
  refine KRg (fun hR => ?_)
  refine KIconst C dL_law_123 ?_
  refine KIstore (lv' := [(12, .int (iI 0)), (0, .ref b0), (1, .ref (q 80)), (2, .int (iI e9)), (3, .ref (q 0)), (4, .ref (q 81)), (5, .ref (q 82)), (6, .ref (q 83)), (7, .ref (q 84)), (8, .ref (q 85)), (9, .ref (q 86)), (10, .ref (q 87)), (11, .ref (q 88))]) C dL_law_124 (by decide) rfl ?_
  refine KSto (S2 := wI S (row1 (sI S) (q 81) (fil 0))) (by rw [fil_0, ← h81 81 (by omega) (by omega), row1_self]) ?_
  refine KLv (lv' := [(0, .ref b0), (1, .ref (q 80)), (2, .int (iI e9)), (3, .ref (q 0)), (4, .ref (q 81)), (5, .ref (q 82)), (6, .ref (q 83)), (7, .ref (q 84)), (8, .ref (q 85)), (9, .ref (q 86)), (10, .ref (q 87)), (11, .ref (q 88)), (12, .int (iI 0))]) [1, 2, 3, 4, 5, 6, 7, 8, 9, 10, 11, 12, 0] rfl ?_
  have loop126 : ∀ (nX : Nat) (k : Nat), 20 - k < nX → (k ≤ 20) → Wk pX l eX room_1 sX mX argsX belowX methX cX QX g 22 cells slots 126 [(0, .ref b0), (1, .ref (q 80)), (2, .int (iI e9)), (3, .ref (q 0)), (4, .ref (q 81)), (5, .ref (q 82)), (6, .ref (q 83)), (7, .ref (q 84)), (8, .ref (q 85)), (9, .ref (q 86)), (10, .ref (q 87)), (11, .ref (q 88)), (12, .int (iI (k : Int)))] [] (wI S (row1 (sI S) (q 81) (fil k))) := by
    intro nX
    induction nX with
    | zero => intro k hm; exact absurd hm (Nat.not_lt_zero _)
    | succ nX ih126 =>
      intro k hm126 hk
      refine KRg (fun hR => ?_)
      refine KIload C dL_law_126 12 rfl ?_
      refine KBipush C dL_law_128 (by decide) ?_
      refine KIcmp_ge (tgt := 145) C dL_law_130 (by decide) ⟨by omega, by omega⟩ ⟨by omega, by omega⟩ (fun c130 => ?_) (fun c130 => ?_)
      · have hk20 : k = 20 := by omega
        rw [hk20]
        refine KIconst C dL_law_145 ?_
        refine KIstore (lv' := [(12, .int (iI 1)), (0, .ref b0), (1, .ref (q 80)), (2, .int (iI e9)), (3, .ref (q 0)), (4, .ref (q 81)), (5, .ref (q 82)), (6, .ref (q 83)), (7, .ref (q 84)), (8, .ref (q 85)), (9, .ref (q 86)), (10, .ref (q 87)), (11, .ref (q 88))]) C dL_law_146 (by decide) rfl ?_
        refine KLv (lv' := [(0, .ref b0), (1, .ref (q 80)), (3, .ref (q 0)), (4, .ref (q 81)), (5, .ref (q 82)), (6, .ref (q 83)), (7, .ref (q 84)), (8, .ref (q 85)), (9, .ref (q 86)), (10, .ref (q 87)), (11, .ref (q 88)), (12, .int (iI 1))]) [1, 2, 4, 5, 6, 7, 8, 9, 10, 11, 12, 0] rfl ?_
        exact kk _ _ (ini_li hT hCR h80 h81)
      · refine KAload C dL_law_133 4 rfl ?_
        refine KIload C dL_law_135 12 rfl ?_
        refine KIconst C dL_law_137 ?_
        refine KIast (S := wI S (row1 (sI S) (q 81) (fil k))) C 20 (hT.at0 81 20) (hT.ln0 81 20) ⟨by omega, by omega⟩ (by omega) ⟨by omega, by omega⟩ dL_law_138 ?_
        refine KSto (S2 := wI S (row1 (sI S) (q 81) (fil (k + 1)))) (congrArg (wI S) ((up2_row1 _ _ _ _ _).trans (congrArg _ (fil_step k)))) ?_
        refine KIinc (v := ((k + 1 : Nat) : Int)) (lv' := [(12, .int (iI ((k + 1 : Nat) : Int))), (0, .ref b0), (1, .ref (q 80)), (2, .int (iI e9)), (3, .ref (q 0)), (4, .ref (q 81)), (5, .ref (q 82)), (6, .ref (q 83)), (7, .ref (q 84)), (8, .ref (q 85)), (9, .ref (q 86)), (10, .ref (q 87)), (11, .ref (q 88))]) C dL_law_139 12 rfl (by omega) (by decide) rfl ?_
        refine KGoto (tgt := 126) C dL_law_142 (by decide) ?_
        refine KLv (lv' := [(0, .ref b0), (1, .ref (q 80)), (2, .int (iI e9)), (3, .ref (q 0)), (4, .ref (q 81)), (5, .ref (q 82)), (6, .ref (q 83)), (7, .ref (q 84)), (8, .ref (q 85)), (9, .ref (q 86)), (10, .ref (q 87)), (11, .ref (q 88)), (12, .int (iI ((k + 1 : Nat) : Int)))]) [1, 2, 3, 4, 5, 6, 7, 8, 9, 10, 11, 12, 0] rfl ?_
        exact ih126 (k + 1) (by omega) (by omega)
  exact loop126 _ 0 (Nat.lt_succ_self _) (by omega)
end
